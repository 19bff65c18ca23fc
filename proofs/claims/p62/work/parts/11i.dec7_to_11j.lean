section
/-! 11i.dec7.lean.txt -/
def fr_bestLag_b83 (k50 : MS → Int32 → Int32 → Int32 → Int32 → Int32 → Option (Int32 × MS)) (S : MS) (s0 : Int32) (l1 : Int32) (l2 : Int32) (l3 : Int32) (l5 : Int32) : Option (Int32 × MS) := elet (l5 + Int32.ofInt (1)) fun v2 => k50 S l1 l2 l3 s0 v2
set_option maxHeartbeats 4000000 in
set_option maxRecDepth 100000 in
theorem tr_bestLag_b83 {p : Program} {l : Launch} {e : Env} {s : State} {m : MethodId} {args : Array Value} {below : List Frame} {meth : Method} {c : Code} {Q : State → Prop} {D : va_G} {A : Nat → Prop} {H0 : Heap} {cI cJ cZ : ClassId} {ad : Nat → Nat} {r1 : Int32} {S1 : MS} (E : mE p c cX12_bestLag s m args (Cond.code yX12_bestLag cX12_bestLag 6 (some .int) :: wsM) D cI cJ cZ) (hA : ∀ q : Nat, H0.size ≤ q → A q) (hR : sR s) (hml : c.maxLocals = 6) (kr29 : ∀ (H : Heap) (locs : List Loc) (ls : Array Slot), mG D cI cJ cZ ad A H0 H locs S1 → W p l e { frames := 3, cells := 0, slots := 0, locals := 43 } s m args below meth c H locs 0 0 Q (F0 m 29 ls [.int r1])) (kr43 : ∀ (H : Heap) (locs : List Loc) (ls : Array Slot), mG D cI cJ cZ ad A H0 H locs S1 → W p l e { frames := 3, cells := 0, slots := 0, locals := 43 } s m args below meth c H locs 0 0 Q (F0 m 43 ls [.int r1])) (kr93 : ∀ (H : Heap) (locs : List Loc) (ls : Array Slot), mG D cI cJ cZ ad A H0 H locs S1 → W p l e { frames := 3, cells := 0, slots := 0, locals := 43 } s m args below meth c H locs 0 0 Q (F0 m 93 ls [.int r1])) {k50 : MS → Int32 → Int32 → Int32 → Int32 → Int32 → Option (Int32 × MS)} (hk50 : ∀ (S : MS) (H : Heap) (locs : List Loc) (ls : Array Slot) (l1 : Int32) (l2 : Int32) (l3 : Int32) (l4 : Int32) (l5 : Int32), k50 S l1 l2 l3 l4 l5 = some (r1, S1) → mG D cI cJ cZ ad A H0 H locs S → lv_has ls 6 [(0, .ref (ad 0)), (1, .int l1), (2, .int l2), (3, .int l3), (4, .int l4), (5, .int l5)] → W p l e { frames := 3, cells := 0, slots := 0, locals := 43 } s m args below meth c H locs 0 0 Q (F0 m 50 ls [])) : ∀ (S : MS) (H : Heap) (locs : List Loc) (ls : Array Slot) (s0 : Int32) (l1 : Int32) (l2 : Int32) (l3 : Int32) (l5 : Int32), fr_bestLag_b83 k50 S s0 l1 l2 l3 l5 = some (r1, S1) → mG D cI cJ cZ ad A H0 H locs S → lv_has ls 6 [(0, .ref (ad 0)), (1, .int l1), (2, .int l2), (3, .int l3), (5, .int l5)] → W p l e { frames := 3, cells := 0, slots := 0, locals := 43 } s m args below meth c H locs 0 0 Q (F0 m 83 ls [.int s0]) := by
  have hx := E.1
  have hb := E.2.1
  have hts := E.2.2.1
  have hown := E.2.2.2.1
  have hK := E.2.2.2.2.1
  intro S H locs ls s0 l1 l2 l3 l5 h G hl
  unfold fr_bestLag_b83 at h
  refine lv_istore (lv' := [(4, .int s0), (0, .ref (ad 0)), (1, .int l1), (2, .int l2), (3, .int l3), (5, .int l5)]) hx hb dX12_bestLag_83 hl (by decide) rfl (fun ls hl => ?_)
  obtain ⟨v2, ev2, h⟩ := elet_some h
  refine lv_iinc (v := v2) (lv' := [(5, .int v2), (4, .int s0), (0, .ref (ad 0)), (1, .int l1), (2, .int l2), (3, .int l3)]) hx hb dX12_bestLag_85 hl (k := 5) rfl ev2.symm (by decide) rfl (fun ls hl => ?_)
  refine lv_goto (tgt := 50) hx hb dX12_bestLag_88 (by decide) ?_
  have hl := lv_sub hl [2, 3, 4, 5, 1, 0] rfl
  exact hk50 _ _ _ _ _ _ _ _ _ h G hl
def fr_bestLag_b50  : Nat → MS → Int32 → Int32 → Int32 → Int32 → Int32 → Option (Int32 × MS)
  | 0, _, _, _, _, _, _ => none
  | n + 1, S, l1, l2, l3, l4, l5 => if l3 < l5 then (some (l4, S)) else (obind2 (fr_together S l1 l2 l5) fun r6 S3 => obind2 (fr_together S3 l1 l2 l4) fun r10 S7 => elet (lg_cmp r6 r10) fun v11 => if v11 ≤ 0 then (fr_bestLag_b83 (fr_bestLag_b50 n) S7 l4 l1 l2 l3 l5) else (fr_bestLag_b83 (fr_bestLag_b50 n) S7 l5 l1 l2 l3 l5))
set_option maxHeartbeats 4000000 in
set_option maxRecDepth 100000 in
theorem tr_bestLag_b50 {p : Program} {l : Launch} {e : Env} {s : State} {m : MethodId} {args : Array Value} {below : List Frame} {meth : Method} {c : Code} {Q : State → Prop} {D : va_G} {A : Nat → Prop} {H0 : Heap} {cI cJ cZ : ClassId} {ad : Nat → Nat} {r1 : Int32} {S1 : MS} (E : mE p c cX12_bestLag s m args (Cond.code yX12_bestLag cX12_bestLag 6 (some .int) :: wsM) D cI cJ cZ) (hA : ∀ q : Nat, H0.size ≤ q → A q) (hR : sR s) (hml : c.maxLocals = 6) (kr29 : ∀ (H : Heap) (locs : List Loc) (ls : Array Slot), mG D cI cJ cZ ad A H0 H locs S1 → W p l e { frames := 3, cells := 0, slots := 0, locals := 43 } s m args below meth c H locs 0 0 Q (F0 m 29 ls [.int r1])) (kr43 : ∀ (H : Heap) (locs : List Loc) (ls : Array Slot), mG D cI cJ cZ ad A H0 H locs S1 → W p l e { frames := 3, cells := 0, slots := 0, locals := 43 } s m args below meth c H locs 0 0 Q (F0 m 43 ls [.int r1])) (kr93 : ∀ (H : Heap) (locs : List Loc) (ls : Array Slot), mG D cI cJ cZ ad A H0 H locs S1 → W p l e { frames := 3, cells := 0, slots := 0, locals := 43 } s m args below meth c H locs 0 0 Q (F0 m 93 ls [.int r1])) : ∀ n : Nat, ∀ (S : MS) (H : Heap) (locs : List Loc) (ls : Array Slot) (l1 : Int32) (l2 : Int32) (l3 : Int32) (l4 : Int32) (l5 : Int32), fr_bestLag_b50 n S l1 l2 l3 l4 l5 = some (r1, S1) → mG D cI cJ cZ ad A H0 H locs S → lv_has ls 6 [(0, .ref (ad 0)), (1, .int l1), (2, .int l2), (3, .int l3), (4, .int l4), (5, .int l5)] → W p l e { frames := 3, cells := 0, slots := 0, locals := 43 } s m args below meth c H locs 0 0 Q (F0 m 50 ls []) := by
  have hx := E.1
  have hb := E.2.1
  have hts := E.2.2.1
  have hown := E.2.2.2.1
  have hK := E.2.2.2.2.1
  intro n
  induction n with
  | zero =>
    intro S H locs ls l1 l2 l3 l4 l5 h
    have h : (none : Option (Int32 × MS)) = some (r1, S1) := h
    cases h
  | succ n ih =>
    intro S H locs ls l1 l2 l3 l4 l5 h G hl
    unfold fr_bestLag_b50 at h
    refine lv_iload hx hb dX12_bestLag_50 (lv_at hl 5 rfl) ?_
    refine lv_iload_n hx hb dX12_bestLag_52 rfl (lv_at hl 3 rfl) ?_
    refine lv_icmp_gt (tgt := 91) hx hb dX12_bestLag_53 (by decide) (fun c2 => ?_) (fun c2 => ?_)
    · have h := oif_pos c2 h
      refine lv_iload hx hb dX12_bestLag_91 (lv_at hl 4 rfl) ?_
      rw [(osome2 h).2] at G
      refine lv_to (osome2 h).1 ?_
      exact kr93 _ _ _ G
    · have h := oif_neg c2 h
      refine lv_aload_n hx hb dX12_bestLag_56 rfl (lv_at hl 0 rfl) ?_
      refine lv_iload_n hx hb dX12_bestLag_57 rfl (lv_at hl 1 rfl) ?_
      refine lv_iload_n hx hb dX12_bestLag_58 rfl (lv_at hl 2 rfl) ?_
      refine lv_iload hx hb dX12_bestLag_59 (lv_at hl 5 rfl) ?_
      obtain ⟨r6, S3, eS3, h⟩ := obind2_some h
      refine m_calll (As := [.int l1, .int l2, .int l5]) (rest := []) E G hA hR hml (tr_together l D cI cJ cZ ad S l1 l2 l5 eS3) (cwV 3 hts (gmV qM_458 qM_459 qM_460 qM_35 qM_456) rfl rfl rfl (by decide +kernel) ⟨Nat.le_of_ble_eq_true rfl, Nat.le_of_ble_eq_true rfl⟩) rfl hl.1 rfl (lv_room (Nat.le_of_ble_eq_true rfl)) dX12_bestLag_61 ⟨Nat.zero_le _, Nat.zero_le _⟩ (fun q4 S5 H locs hq G => ?_)
      obtain ⟨hq1, hq2⟩ := hq
      rw [hq2] at G
      refine lv_tol hq1 ?_
      clear hq1 hq2 eS3
      refine lv_aload_n hx hb dX12_bestLag_64 rfl (lv_at hl 0 rfl) ?_
      refine lv_iload_n hx hb dX12_bestLag_65 rfl (lv_at hl 1 rfl) ?_
      refine lv_iload_n hx hb dX12_bestLag_66 rfl (lv_at hl 2 rfl) ?_
      refine lv_iload hx hb dX12_bestLag_67 (lv_at hl 4 rfl) ?_
      obtain ⟨r10, S7, eS7, h⟩ := obind2_some h
      refine m_calll (As := [.int l1, .int l2, .int l4]) (rest := [.long r6]) E G hA hR hml (tr_together l D cI cJ cZ ad S3 l1 l2 l4 eS7) (cwV 3 hts (gmV qM_458 qM_459 qM_460 qM_35 qM_456) rfl rfl rfl (by decide +kernel) ⟨Nat.le_of_ble_eq_true rfl, Nat.le_of_ble_eq_true rfl⟩) rfl hl.1 rfl (lv_room (Nat.le_of_ble_eq_true rfl)) dX12_bestLag_69 ⟨Nat.zero_le _, Nat.zero_le _⟩ (fun q8 S9 H locs hq G => ?_)
      obtain ⟨hq1, hq2⟩ := hq
      rw [hq2] at G
      refine lv_tol hq1 ?_
      clear hq1 hq2 eS7
      refine W.lcmp hx hb dX12_bestLag_72 ?_
      refine lv_topi (fun v11 ev11 => ?_)
      have h := elet_at ev11 h
      clear ev11
      refine lv_if_le (tgt := 81) hx hb dX12_bestLag_73 (by decide) (fun c12 => ?_) (fun c12 => ?_)
      · have h := oif_pos c12 h
        refine lv_iload hx hb dX12_bestLag_81 (lv_at hl 4 rfl) ?_
        have hl := lv_sub hl [0, 1, 2, 3, 5] rfl
        exact tr_bestLag_b83 E hA hR hml kr29 kr43 kr93 ih _ _ _ _ _ _ _ _ _ h G hl
      · have h := oif_neg c12 h
        refine lv_iload hx hb dX12_bestLag_76 (lv_at hl 5 rfl) ?_
        refine lv_goto (tgt := 83) hx hb dX12_bestLag_78 (by decide) ?_
        have hl := lv_sub hl [0, 1, 2, 3, 5] rfl
        exact tr_bestLag_b83 E hA hR hml kr29 kr43 kr93 ih _ _ _ _ _ _ _ _ _ h G hl
def fr_bestLag_b22  (S : MS) (s0 : Int32) (l1 : Int32) (l2 : Int32) (l3 : Int32) : Option (Int32 × MS) := obind2 (fr_mayAsk S s0) fun r5 S2 => if r5 = 0 then (some (0, S2)) else (obind2 (fr_isTime S2 l3) fun r10 S7 => if r10 = 0 then (obind2 (fr_throwsAt S7 3) fun r15 S12 => some (r15, S12)) else (fr_bestLag_b50 16384 S7 l1 l2 l3 0 1))
set_option maxHeartbeats 4000000 in
set_option maxRecDepth 100000 in
theorem tr_bestLag_b22 {p : Program} {l : Launch} {e : Env} {s : State} {m : MethodId} {args : Array Value} {below : List Frame} {meth : Method} {c : Code} {Q : State → Prop} {D : va_G} {A : Nat → Prop} {H0 : Heap} {cI cJ cZ : ClassId} {ad : Nat → Nat} {r1 : Int32} {S1 : MS} (E : mE p c cX12_bestLag s m args (Cond.code yX12_bestLag cX12_bestLag 6 (some .int) :: wsM) D cI cJ cZ) (hA : ∀ q : Nat, H0.size ≤ q → A q) (hR : sR s) (hml : c.maxLocals = 6) (kr29 : ∀ (H : Heap) (locs : List Loc) (ls : Array Slot), mG D cI cJ cZ ad A H0 H locs S1 → W p l e { frames := 3, cells := 0, slots := 0, locals := 43 } s m args below meth c H locs 0 0 Q (F0 m 29 ls [.int r1])) (kr43 : ∀ (H : Heap) (locs : List Loc) (ls : Array Slot), mG D cI cJ cZ ad A H0 H locs S1 → W p l e { frames := 3, cells := 0, slots := 0, locals := 43 } s m args below meth c H locs 0 0 Q (F0 m 43 ls [.int r1])) (kr93 : ∀ (H : Heap) (locs : List Loc) (ls : Array Slot), mG D cI cJ cZ ad A H0 H locs S1 → W p l e { frames := 3, cells := 0, slots := 0, locals := 43 } s m args below meth c H locs 0 0 Q (F0 m 93 ls [.int r1])) : ∀ (S : MS) (H : Heap) (locs : List Loc) (ls : Array Slot) (s0 : Int32) (l1 : Int32) (l2 : Int32) (l3 : Int32), fr_bestLag_b22 S s0 l1 l2 l3 = some (r1, S1) → mG D cI cJ cZ ad A H0 H locs S → lv_has ls 6 [(0, .ref (ad 0)), (1, .int l1), (2, .int l2), (3, .int l3)] → W p l e { frames := 3, cells := 0, slots := 0, locals := 43 } s m args below meth c H locs 0 0 Q (F0 m 22 ls [.int s0, .ref (ad 0)]) := by
  have hx := E.1
  have hb := E.2.1
  have hts := E.2.2.1
  have hown := E.2.2.2.1
  have hK := E.2.2.2.2.1
  intro S H locs ls s0 l1 l2 l3 h G hl
  unfold fr_bestLag_b22 at h
  obtain ⟨r5, S2, eS2, h⟩ := obind2_some h
  refine m_calli (As := [.int s0]) (rest := []) E G hA hR hml (tr_mayAsk l D cI cJ cZ ad S s0 eS2) (cwV 1 hts (gmV qM_319 qM_320 qM_321 qM_35 qM_304) rfl rfl rfl (by decide +kernel) ⟨Nat.le_of_ble_eq_true rfl, Nat.le_of_ble_eq_true rfl⟩) rfl hl.1 rfl (lv_room (Nat.le_of_ble_eq_true rfl)) dX12_bestLag_22 ⟨Nat.zero_le _, Nat.zero_le _⟩ (fun q3 S4 H locs hq G => ?_)
  obtain ⟨hq1, hq2⟩ := hq
  rw [hq2] at G
  refine lv_to hq1 ?_
  clear hq1 hq2 eS2
  refine lv_if_ne (tgt := 30) hx hb dX12_bestLag_25 (by decide) (fun c6 => ?_) (fun c6 => ?_)
  · have h := oif_neg c6 h
    refine lv_aload_n hx hb dX12_bestLag_30 rfl (lv_at hl 0 rfl) ?_
    refine lv_iload_n hx hb dX12_bestLag_31 rfl (lv_at hl 3 rfl) ?_
    obtain ⟨r10, S7, eS7, h⟩ := obind2_some h
    refine m_calli (As := [.int l3]) (rest := []) E G hA hR hml (tr_isTime l D cI cJ cZ ad S2 l3 eS7) (cwV 1 hts (gmV qM_334 qM_335 qM_336 qM_35 qM_309) rfl rfl rfl (by decide +kernel) ⟨Nat.le_of_ble_eq_true rfl, Nat.le_of_ble_eq_true rfl⟩) rfl hl.1 rfl (lv_room (Nat.le_of_ble_eq_true rfl)) dX12_bestLag_32 ⟨Nat.zero_le _, Nat.zero_le _⟩ (fun q8 S9 H locs hq G => ?_)
    obtain ⟨hq1, hq2⟩ := hq
    rw [hq2] at G
    refine lv_to hq1 ?_
    clear hq1 hq2 eS7
    refine lv_if_ne (tgt := 44) hx hb dX12_bestLag_35 (by decide) (fun c11 => ?_) (fun c11 => ?_)
    · have h := oif_neg c11 h
      refine lv_iconst (v := 0) hx hb dX12_bestLag_44 (by decide) ?_
      refine lv_istore (lv' := [(4, .int 0), (0, .ref (ad 0)), (1, .int l1), (2, .int l2), (3, .int l3)]) hx hb dX12_bestLag_45 hl (by decide) rfl (fun ls hl => ?_)
      refine lv_iconst (v := 1) hx hb dX12_bestLag_47 (by decide) ?_
      refine lv_istore (lv' := [(5, .int 1), (4, .int 0), (0, .ref (ad 0)), (1, .int l1), (2, .int l2), (3, .int l3)]) hx hb dX12_bestLag_48 hl (by decide) rfl (fun ls hl => ?_)
      have hl := lv_sub hl [2, 3, 4, 5, 1, 0] rfl
      exact tr_bestLag_b50 E hA hR hml kr29 kr43 kr93 _ _ _ _ _ _ _ _ _ _ h G hl
    · have h := oif_pos c11 h
      refine lv_aload_n hx hb dX12_bestLag_38 rfl (lv_at hl 0 rfl) ?_
      refine lv_iconst (v := 3) hx hb dX12_bestLag_39 (by decide) ?_
      obtain ⟨r15, S12, eS12, h⟩ := obind2_some h
      refine m_calli (As := [.int 3]) (rest := []) E G hA hR hml (tr_throwsAt l D cI cJ cZ ad S7 3 eS12) (cwV 1 hts (gmV qM_195 qM_196 qM_197 qM_35 qM_28) rfl rfl rfl (by decide +kernel) ⟨Nat.le_of_ble_eq_true rfl, Nat.le_of_ble_eq_true rfl⟩) rfl hl.1 rfl (lv_room (Nat.le_of_ble_eq_true rfl)) dX12_bestLag_40 ⟨Nat.zero_le _, Nat.zero_le _⟩ (fun q13 S14 H locs hq G => ?_)
      obtain ⟨hq1, hq2⟩ := hq
      rw [hq2] at G
      refine lv_to hq1 ?_
      clear hq1 hq2 eS12
      rw [(osome2 h).2] at G
      refine lv_to (osome2 h).1 ?_
      exact kr43 _ _ _ G
  · have h := oif_pos c6 h
    refine lv_iconst (v := 0) hx hb dX12_bestLag_28 (by decide) ?_
    rw [(osome2 h).2] at G
    refine lv_to (osome2 h).1 ?_
    exact kr29 _ _ _ G
def fr_bestLag_b21  (S : MS) (l1 : Int32) (l2 : Int32) (l3 : Int32) : Option (Int32 × MS) := fr_bestLag_b22 S 0 l1 l2 l3
set_option maxHeartbeats 4000000 in
set_option maxRecDepth 100000 in
theorem tr_bestLag_b21 {p : Program} {l : Launch} {e : Env} {s : State} {m : MethodId} {args : Array Value} {below : List Frame} {meth : Method} {c : Code} {Q : State → Prop} {D : va_G} {A : Nat → Prop} {H0 : Heap} {cI cJ cZ : ClassId} {ad : Nat → Nat} {r1 : Int32} {S1 : MS} (E : mE p c cX12_bestLag s m args (Cond.code yX12_bestLag cX12_bestLag 6 (some .int) :: wsM) D cI cJ cZ) (hA : ∀ q : Nat, H0.size ≤ q → A q) (hR : sR s) (hml : c.maxLocals = 6) (kr29 : ∀ (H : Heap) (locs : List Loc) (ls : Array Slot), mG D cI cJ cZ ad A H0 H locs S1 → W p l e { frames := 3, cells := 0, slots := 0, locals := 43 } s m args below meth c H locs 0 0 Q (F0 m 29 ls [.int r1])) (kr43 : ∀ (H : Heap) (locs : List Loc) (ls : Array Slot), mG D cI cJ cZ ad A H0 H locs S1 → W p l e { frames := 3, cells := 0, slots := 0, locals := 43 } s m args below meth c H locs 0 0 Q (F0 m 43 ls [.int r1])) (kr93 : ∀ (H : Heap) (locs : List Loc) (ls : Array Slot), mG D cI cJ cZ ad A H0 H locs S1 → W p l e { frames := 3, cells := 0, slots := 0, locals := 43 } s m args below meth c H locs 0 0 Q (F0 m 93 ls [.int r1])) : ∀ (S : MS) (H : Heap) (locs : List Loc) (ls : Array Slot) (l1 : Int32) (l2 : Int32) (l3 : Int32), fr_bestLag_b21 S l1 l2 l3 = some (r1, S1) → mG D cI cJ cZ ad A H0 H locs S → lv_has ls 6 [(0, .ref (ad 0)), (1, .int l1), (2, .int l2), (3, .int l3)] → W p l e { frames := 3, cells := 0, slots := 0, locals := 43 } s m args below meth c H locs 0 0 Q (F0 m 21 ls [.ref (ad 0)]) := by
  have hx := E.1
  have hb := E.2.1
  have hts := E.2.2.1
  have hown := E.2.2.2.1
  have hK := E.2.2.2.2.1
  intro S H locs ls l1 l2 l3 h G hl
  unfold fr_bestLag_b21 at h
  refine lv_iconst (v := 0) hx hb dX12_bestLag_21 (by decide) ?_
  have hl := lv_sub hl [0, 1, 2, 3] rfl
  exact tr_bestLag_b22 E hA hR hml kr29 kr43 kr93 _ _ _ _ _ _ _ _ h G hl
def fr_bestLag (S : MS) (a0 : Int32) (a1 : Int32) (a2 : Int32) : Option (Int32 × MS) := obind2 (fr_isMic S a0) fun r5 S2 => if r5 = 0 then (fr_bestLag_b21 S2 a0 a1 a2) else (obind2 (fr_isMic S2 a1) fun r10 S7 => if r10 = 0 then (fr_bestLag_b21 S7 a0 a1 a2) else (fr_bestLag_b22 S7 1 a0 a1 a2))
set_option maxHeartbeats 4000000 in
set_option maxRecDepth 100000 in
theorem tr_bestLag (l : Launch) (D : va_G) (cI cJ cZ : ClassId) (ad : Nat → Nat) (S : MS) (a0 : Int32) (a1 : Int32) (a2 : Int32) {r1 : Int32} {S1 : MS} (h : fr_bestLag S a0 a1 a2 = some (r1, S1)) : mCi l yX12_bestLag (Cond.code yX12_bestLag cX12_bestLag 6 (some .int) :: wsM) 3 43 D cI cJ cZ ad S [.int a0, .int a1, .int a2] (fun r S9 => r = r1 ∧ S9 = S1) := by
  intro sz
  refine Met.ofW (cc := cX12_bestLag) (maxL := 6) (ret := (some .int)) (by decide) rfl ?_
  intro p e s m args below meth c s₁ B hml hv
  obtain ⟨rfl, hsz, hP, hK, hD0, hR⟩ := hv
  have hx := B.exec
  have hb := B.bytes
  have hr := B.returns
  have hts := atoms_spec (ws := (Cond.code yX12_bestLag cX12_bestLag 6 (some .int) :: wsM)) B.pre
  have hown : s.vm.findClass RX12 = some m.cls := findClass_of_methodNamed B.named
  have hlocks := B.notSynchronized
  subst hsz
  have hD := hD0.self (sz := s.heap.size)
  generalize hAe : va_A (MW cI cJ cZ ad S) s.heap.size = A at hD ⊢
  have hA : ∀ q : Nat, s.heap.size ≤ q → A q := fun q h => by rw [← hAe]; exact Or.inr h
  have G : mG D cI cJ cZ ad A s.heap s.heap [] S := ⟨hP, hD, va_S.rf⟩
  have E : mE p c cX12_bestLag s m ([.ref (ad 0), .int a0, .int a1, .int a2] : List Value).toArray (Cond.code yX12_bestLag cX12_bestLag 6 (some .int) :: wsM) D cI cJ cZ := ⟨hx, hb, hts, hown, hK, fun w h => .tail _ (iM_x h)⟩
  have hl := lv_entry ([.ref (ad 0), .int a0, .int a1, .int a2]) (n := 6) (Nat.le_of_ble_eq_true rfl)
  rw [lg_entry_eq]
  generalize (lg_sl ([.ref (ad 0), .int a0, .int a1, .int a2]) ++ List.replicate (6 - (lg_sl ([.ref (ad 0), .int a0, .int a1, .int a2])).length) Slot.unset).toArray = ls at hl ⊢
  have hl : lv_has ls 6 [(0, .ref (ad 0)), (1, .int a0), (2, .int a1), (3, .int a2)] := hl
  unfold fr_bestLag at h
  refine lv_aload_n hx hb dX12_bestLag_0 rfl (lv_at hl 0 rfl) ?_
  refine lv_aload_n hx hb dX12_bestLag_1 rfl (lv_at hl 0 rfl) ?_
  refine lv_iload_n hx hb dX12_bestLag_2 rfl (lv_at hl 1 rfl) ?_
  obtain ⟨r5, S2, eS2, h⟩ := obind2_some h
  refine m_calli (As := [.int a0]) (rest := [.ref (ad 0)]) E G hA hR hml (tr_isMic l D cI cJ cZ ad S a0 eS2) (cwV 1 hts (gmV qM_316 qM_317 qM_318 qM_35 qM_306) rfl rfl rfl (by decide +kernel) ⟨Nat.le_of_ble_eq_true rfl, Nat.le_of_ble_eq_true rfl⟩) rfl hl.1 rfl (lv_room (Nat.le_of_ble_eq_true rfl)) dX12_bestLag_3 ⟨Nat.zero_le _, Nat.zero_le _⟩ (fun q3 S4 H locs hq G => ?_)
  obtain ⟨hq1, hq2⟩ := hq
  rw [hq2] at G
  refine lv_to hq1 ?_
  clear hq1 hq2 eS2
  refine lv_if_eq (tgt := 21) hx hb dX12_bestLag_6 (by decide) (fun c6 => ?_) (fun c6 => ?_)
  · have h := oif_pos c6 h
    have hl := lv_sub hl [0, 1, 2, 3] rfl
    exact tr_bestLag_b21 E hA hR hml (fun H locs ls G => W.iret (v := r1) hx hb hr (fun t ht hW => ⟨⟨r1, S1, rfl, ⟨rfl, rfl⟩, ⟨by rw [ht]; exact G.1, va_K.moved hW.alike hK, G.2.1⟩⟩, G.2.2.F ht⟩) G.2.2.2.2 dX12_bestLag_29) (fun H locs ls G => W.iret (v := r1) hx hb hr (fun t ht hW => ⟨⟨r1, S1, rfl, ⟨rfl, rfl⟩, ⟨by rw [ht]; exact G.1, va_K.moved hW.alike hK, G.2.1⟩⟩, G.2.2.F ht⟩) G.2.2.2.2 dX12_bestLag_43) (fun H locs ls G => W.iret (v := r1) hx hb hr (fun t ht hW => ⟨⟨r1, S1, rfl, ⟨rfl, rfl⟩, ⟨by rw [ht]; exact G.1, va_K.moved hW.alike hK, G.2.1⟩⟩, G.2.2.F ht⟩) G.2.2.2.2 dX12_bestLag_93) _ _ _ _ _ _ _ h G hl
  · have h := oif_neg c6 h
    refine lv_aload_n hx hb dX12_bestLag_9 rfl (lv_at hl 0 rfl) ?_
    refine lv_iload_n hx hb dX12_bestLag_10 rfl (lv_at hl 2 rfl) ?_
    obtain ⟨r10, S7, eS7, h⟩ := obind2_some h
    refine m_calli (As := [.int a1]) (rest := [.ref (ad 0)]) E G hA hR hml (tr_isMic l D cI cJ cZ ad S2 a1 eS7) (cwV 1 hts (gmV qM_316 qM_317 qM_318 qM_35 qM_306) rfl rfl rfl (by decide +kernel) ⟨Nat.le_of_ble_eq_true rfl, Nat.le_of_ble_eq_true rfl⟩) rfl hl.1 rfl (lv_room (Nat.le_of_ble_eq_true rfl)) dX12_bestLag_11 ⟨Nat.zero_le _, Nat.zero_le _⟩ (fun q8 S9 H locs hq G => ?_)
    obtain ⟨hq1, hq2⟩ := hq
    rw [hq2] at G
    refine lv_to hq1 ?_
    clear hq1 hq2 eS7
    refine lv_if_eq (tgt := 21) hx hb dX12_bestLag_14 (by decide) (fun c11 => ?_) (fun c11 => ?_)
    · have h := oif_pos c11 h
      have hl := lv_sub hl [0, 1, 2, 3] rfl
      exact tr_bestLag_b21 E hA hR hml (fun H locs ls G => W.iret (v := r1) hx hb hr (fun t ht hW => ⟨⟨r1, S1, rfl, ⟨rfl, rfl⟩, ⟨by rw [ht]; exact G.1, va_K.moved hW.alike hK, G.2.1⟩⟩, G.2.2.F ht⟩) G.2.2.2.2 dX12_bestLag_29) (fun H locs ls G => W.iret (v := r1) hx hb hr (fun t ht hW => ⟨⟨r1, S1, rfl, ⟨rfl, rfl⟩, ⟨by rw [ht]; exact G.1, va_K.moved hW.alike hK, G.2.1⟩⟩, G.2.2.F ht⟩) G.2.2.2.2 dX12_bestLag_43) (fun H locs ls G => W.iret (v := r1) hx hb hr (fun t ht hW => ⟨⟨r1, S1, rfl, ⟨rfl, rfl⟩, ⟨by rw [ht]; exact G.1, va_K.moved hW.alike hK, G.2.1⟩⟩, G.2.2.F ht⟩) G.2.2.2.2 dX12_bestLag_93) _ _ _ _ _ _ _ h G hl
    · have h := oif_neg c11 h
      refine lv_iconst (v := 1) hx hb dX12_bestLag_17 (by decide) ?_
      refine lv_goto (tgt := 22) hx hb dX12_bestLag_18 (by decide) ?_
      have hl := lv_sub hl [0, 1, 2, 3] rfl
      exact tr_bestLag_b22 E hA hR hml (fun H locs ls G => W.iret (v := r1) hx hb hr (fun t ht hW => ⟨⟨r1, S1, rfl, ⟨rfl, rfl⟩, ⟨by rw [ht]; exact G.1, va_K.moved hW.alike hK, G.2.1⟩⟩, G.2.2.F ht⟩) G.2.2.2.2 dX12_bestLag_29) (fun H locs ls G => W.iret (v := r1) hx hb hr (fun t ht hW => ⟨⟨r1, S1, rfl, ⟨rfl, rfl⟩, ⟨by rw [ht]; exact G.1, va_K.moved hW.alike hK, G.2.1⟩⟩, G.2.2.F ht⟩) G.2.2.2.2 dX12_bestLag_43) (fun H locs ls G => W.iret (v := r1) hx hb hr (fun t ht hW => ⟨⟨r1, S1, rfl, ⟨rfl, rfl⟩, ⟨by rw [ht]; exact G.1, va_K.moved hW.alike hK, G.2.1⟩⟩, G.2.2.F ht⟩) G.2.2.2.2 dX12_bestLag_93) _ _ _ _ _ _ _ _ h G hl
def fr_levelOf (S : MS) (a0 : Int32) : Option (Int64 × MS) := obind2 (fr_together S a0 a0 0) fun r5 S2 => elet (S2.2.1 10 2) fun v6 => elet (v6.toInt64) fun v7 => oif (¬ v7 = 0) <| elet (r5 / v7) fun v9 => some (v9, S2)
set_option maxHeartbeats 4000000 in
set_option maxRecDepth 100000 in
theorem tr_levelOf (l : Launch) (D : va_G) (cI cJ cZ : ClassId) (ad : Nat → Nat) (S : MS) (a0 : Int32) {r1 : Int64} {S1 : MS} (h : fr_levelOf S a0 = some (r1, S1)) : mCl l yX12_levelOf (Cond.code yX12_levelOf cX12_levelOf 2 (some .long) :: wsM) 2 26 D cI cJ cZ ad S [.int a0] (fun r S9 => r = r1 ∧ S9 = S1) := by
  intro sz
  refine Met.ofW (cc := cX12_levelOf) (maxL := 2) (ret := (some .long)) (by decide) rfl ?_
  intro p e s m args below meth c s₁ B hml hv
  obtain ⟨rfl, hsz, hP, hK, hD0, hR⟩ := hv
  have hx := B.exec
  have hb := B.bytes
  have hr := B.returns
  have hts := atoms_spec (ws := (Cond.code yX12_levelOf cX12_levelOf 2 (some .long) :: wsM)) B.pre
  have hown : s.vm.findClass RX12 = some m.cls := findClass_of_methodNamed B.named
  have hlocks := B.notSynchronized
  subst hsz
  have hD := hD0.self (sz := s.heap.size)
  generalize hAe : va_A (MW cI cJ cZ ad S) s.heap.size = A at hD ⊢
  have hA : ∀ q : Nat, s.heap.size ≤ q → A q := fun q h => by rw [← hAe]; exact Or.inr h
  have G : mG D cI cJ cZ ad A s.heap s.heap [] S := ⟨hP, hD, va_S.rf⟩
  have E : mE p c cX12_levelOf s m ([.ref (ad 0), .int a0] : List Value).toArray (Cond.code yX12_levelOf cX12_levelOf 2 (some .long) :: wsM) D cI cJ cZ := ⟨hx, hb, hts, hown, hK, fun w h => .tail _ (iM_x h)⟩
  have hl := lv_entry ([.ref (ad 0), .int a0]) (n := 2) (Nat.le_of_ble_eq_true rfl)
  rw [lg_entry_eq]
  generalize (lg_sl ([.ref (ad 0), .int a0]) ++ List.replicate (2 - (lg_sl ([.ref (ad 0), .int a0])).length) Slot.unset).toArray = ls at hl ⊢
  have hl : lv_has ls 2 [(0, .ref (ad 0)), (1, .int a0)] := hl
  unfold fr_levelOf at h
  refine lv_aload_n hx hb dX12_levelOf_0 rfl (lv_at hl 0 rfl) ?_
  refine lv_iload_n hx hb dX12_levelOf_1 rfl (lv_at hl 1 rfl) ?_
  refine lv_iload_n hx hb dX12_levelOf_2 rfl (lv_at hl 1 rfl) ?_
  refine lv_iconst (v := 0) hx hb dX12_levelOf_3 (by decide) ?_
  obtain ⟨r5, S2, eS2, h⟩ := obind2_some h
  refine m_calll (As := [.int a0, .int a0, .int 0]) (rest := []) E G hA hR hml (tr_together l D cI cJ cZ ad S a0 a0 0 eS2) (cwV 3 hts (gmV qM_458 qM_459 qM_460 qM_35 qM_456) rfl rfl rfl (by decide +kernel) ⟨Nat.le_of_ble_eq_true rfl, Nat.le_of_ble_eq_true rfl⟩) rfl hl.1 rfl (lv_room (Nat.le_of_ble_eq_true rfl)) dX12_levelOf_4 ⟨Nat.zero_le _, Nat.zero_le _⟩ (fun q3 S4 H locs hq G => ?_)
  obtain ⟨hq1, hq2⟩ := hq
  rw [hq2] at G
  refine lv_tol hq1 ?_
  clear hq1 hq2 eS2
  refine lv_aload_n hx hb dX12_levelOf_7 rfl (lv_at hl 0 rfl) ?_
  refine m_get E G 10 (v := .ref (ad 10)) (by decide) (.tail _ qM_7) rfl dX12_levelOf_8 rfl ?_
  refine lv_iconst (v := 2) hx hb dX12_levelOf_11 (by decide) ?_
  refine m_iald E G 10 2 (n := 131) (k := 2) rfl rfl (by decide) (by decide) dX12_levelOf_12 ?_
  refine lv_topi (fun v6 ev6 => ?_)
  have h := elet_at ev6 h
  clear ev6
  refine lv_i2l (v := v6.toInt64) hx hb dX12_levelOf_13 rfl ?_
  refine lv_topl (fun v7 ev7 => ?_)
  have h := elet_at ev7 h
  clear ev7
  obtain ⟨g8, h⟩ := oif_some h
  refine lv_ldiv hx hb dX12_levelOf_14 g8 ?_
  refine lv_topl (fun v9 ev9 => ?_)
  have h := elet_at ev9 h
  clear ev9
  exact W.lret (v := v9) hx hb hr (fun t ht hW => ⟨⟨v9, S2, rfl, osome2 h, ⟨by rw [ht]; exact G.1, va_K.moved hW.alike hK, G.2.1⟩⟩, G.2.2.F ht⟩) G.2.2.2.2 dX12_levelOf_15
def fr_level_b21  (S : MS) (s0 : Int64) : Option (Int64 × MS) := some (s0, S)
set_option maxHeartbeats 4000000 in
set_option maxRecDepth 100000 in
theorem tr_level_b21 {p : Program} {l : Launch} {e : Env} {s : State} {m : MethodId} {args : Array Value} {below : List Frame} {meth : Method} {c : Code} {Q : State → Prop} {D : va_G} {A : Nat → Prop} {H0 : Heap} {cI cJ cZ : ClassId} {ad : Nat → Nat} {r1 : Int64} {S1 : MS} (E : mE p c cX12_level s m args (Cond.code yX12_level cX12_level 2 (some .long) :: wsM) D cI cJ cZ) (hA : ∀ q : Nat, H0.size ≤ q → A q) (hR : sR s) (hml : c.maxLocals = 2) (kr21 : ∀ (H : Heap) (locs : List Loc) (ls : Array Slot), mG D cI cJ cZ ad A H0 H locs S1 → W p l e { frames := 3, cells := 0, slots := 0, locals := 47 } s m args below meth c H locs 0 0 Q (F0 m 21 ls [.long r1])) : ∀ (S : MS) (H : Heap) (locs : List Loc) (ls : Array Slot) (s0 : Int64), fr_level_b21 S s0 = some (r1, S1) → mG D cI cJ cZ ad A H0 H locs S → lv_has ls 2 [] → W p l e { frames := 3, cells := 0, slots := 0, locals := 47 } s m args below meth c H locs 0 0 Q (F0 m 21 ls [.long s0]) := by
  have hx := E.1
  have hb := E.2.1
  have hts := E.2.2.1
  have hown := E.2.2.2.1
  have hK := E.2.2.2.2.1
  intro S H locs ls s0 h G hl
  unfold fr_level_b21 at h
  rw [(osome2 h).2] at G
  refine lv_tol (osome2 h).1 ?_
  exact kr21 _ _ _ G
def fr_level (S : MS) (a0 : Int32) : Option (Int64 × MS) := obind2 (fr_isMic S a0) fun r5 S2 => obind2 (fr_mayAsk S2 r5) fun r9 S6 => if r9 = 0 then (fr_level_b21 S6 (0 : Int64)) else (obind2 (fr_levelOf S6 a0) fun r14 S11 => fr_level_b21 S11 r14)
set_option maxHeartbeats 4000000 in
set_option maxRecDepth 100000 in
theorem tr_level (l : Launch) (D : va_G) (cI cJ cZ : ClassId) (ad : Nat → Nat) (S : MS) (a0 : Int32) {r1 : Int64} {S1 : MS} (h : fr_level S a0 = some (r1, S1)) : mCl l yX12_level (Cond.code yX12_level cX12_level 2 (some .long) :: wsM) 3 47 D cI cJ cZ ad S [.int a0] (fun r S9 => r = r1 ∧ S9 = S1) := by
  intro sz
  refine Met.ofW (cc := cX12_level) (maxL := 2) (ret := (some .long)) (by decide) rfl ?_
  intro p e s m args below meth c s₁ B hml hv
  obtain ⟨rfl, hsz, hP, hK, hD0, hR⟩ := hv
  have hx := B.exec
  have hb := B.bytes
  have hr := B.returns
  have hts := atoms_spec (ws := (Cond.code yX12_level cX12_level 2 (some .long) :: wsM)) B.pre
  have hown : s.vm.findClass RX12 = some m.cls := findClass_of_methodNamed B.named
  have hlocks := B.notSynchronized
  subst hsz
  have hD := hD0.self (sz := s.heap.size)
  generalize hAe : va_A (MW cI cJ cZ ad S) s.heap.size = A at hD ⊢
  have hA : ∀ q : Nat, s.heap.size ≤ q → A q := fun q h => by rw [← hAe]; exact Or.inr h
  have G : mG D cI cJ cZ ad A s.heap s.heap [] S := ⟨hP, hD, va_S.rf⟩
  have E : mE p c cX12_level s m ([.ref (ad 0), .int a0] : List Value).toArray (Cond.code yX12_level cX12_level 2 (some .long) :: wsM) D cI cJ cZ := ⟨hx, hb, hts, hown, hK, fun w h => .tail _ (iM_x h)⟩
  have hl := lv_entry ([.ref (ad 0), .int a0]) (n := 2) (Nat.le_of_ble_eq_true rfl)
  rw [lg_entry_eq]
  generalize (lg_sl ([.ref (ad 0), .int a0]) ++ List.replicate (2 - (lg_sl ([.ref (ad 0), .int a0])).length) Slot.unset).toArray = ls at hl ⊢
  have hl : lv_has ls 2 [(0, .ref (ad 0)), (1, .int a0)] := hl
  unfold fr_level at h
  refine lv_aload_n hx hb dX12_level_0 rfl (lv_at hl 0 rfl) ?_
  refine lv_aload_n hx hb dX12_level_1 rfl (lv_at hl 0 rfl) ?_
  refine lv_iload_n hx hb dX12_level_2 rfl (lv_at hl 1 rfl) ?_
  obtain ⟨r5, S2, eS2, h⟩ := obind2_some h
  refine m_calli (As := [.int a0]) (rest := [.ref (ad 0)]) E G hA hR hml (tr_isMic l D cI cJ cZ ad S a0 eS2) (cwV 1 hts (gmV qM_316 qM_317 qM_318 qM_35 qM_306) rfl rfl rfl (by decide +kernel) ⟨Nat.le_of_ble_eq_true rfl, Nat.le_of_ble_eq_true rfl⟩) rfl hl.1 rfl (lv_room (Nat.le_of_ble_eq_true rfl)) dX12_level_3 ⟨Nat.zero_le _, Nat.zero_le _⟩ (fun q3 S4 H locs hq G => ?_)
  obtain ⟨hq1, hq2⟩ := hq
  rw [hq2] at G
  refine lv_to hq1 ?_
  clear hq1 hq2 eS2
  obtain ⟨r9, S6, eS6, h⟩ := obind2_some h
  refine m_calli (As := [.int r5]) (rest := []) E G hA hR hml (tr_mayAsk l D cI cJ cZ ad S2 r5 eS6) (cwV 1 hts (gmV qM_319 qM_320 qM_321 qM_35 qM_304) rfl rfl rfl (by decide +kernel) ⟨Nat.le_of_ble_eq_true rfl, Nat.le_of_ble_eq_true rfl⟩) rfl hl.1 rfl (lv_room (Nat.le_of_ble_eq_true rfl)) dX12_level_6 ⟨Nat.zero_le _, Nat.zero_le _⟩ (fun q7 S8 H locs hq G => ?_)
  obtain ⟨hq1, hq2⟩ := hq
  rw [hq2] at G
  refine lv_to hq1 ?_
  clear hq1 hq2 eS6
  refine lv_if_eq (tgt := 20) hx hb dX12_level_9 (by decide) (fun c10 => ?_) (fun c10 => ?_)
  · have h := oif_pos c10 h
    refine lv_lconst (v := 0) hx hb dX12_level_20 (by decide) ?_
    have hl := lv_sub hl [] rfl
    exact tr_level_b21 E hA hR hml (fun H locs ls G => W.lret (v := r1) hx hb hr (fun t ht hW => ⟨⟨r1, S1, rfl, ⟨rfl, rfl⟩, ⟨by rw [ht]; exact G.1, va_K.moved hW.alike hK, G.2.1⟩⟩, G.2.2.F ht⟩) G.2.2.2.2 dX12_level_21) _ _ _ _ _ h G hl
  · have h := oif_neg c10 h
    refine lv_aload_n hx hb dX12_level_12 rfl (lv_at hl 0 rfl) ?_
    refine lv_iload_n hx hb dX12_level_13 rfl (lv_at hl 1 rfl) ?_
    obtain ⟨r14, S11, eS11, h⟩ := obind2_some h
    refine m_calll (As := [.int a0]) (rest := []) E G hA hR hml (tr_levelOf l D cI cJ cZ ad S6 a0 eS11) (cwV 1 hts (gmV qM_464 qM_465 qM_466 qM_35 qM_462) rfl rfl rfl (by decide +kernel) ⟨Nat.le_of_ble_eq_true rfl, Nat.le_of_ble_eq_true rfl⟩) rfl hl.1 rfl (lv_room (Nat.le_of_ble_eq_true rfl)) dX12_level_14 ⟨Nat.zero_le _, Nat.zero_le _⟩ (fun q12 S13 H locs hq G => ?_)
    obtain ⟨hq1, hq2⟩ := hq
    rw [hq2] at G
    refine lv_tol hq1 ?_
    clear hq1 hq2 eS11
    refine lv_goto (tgt := 21) hx hb dX12_level_17 (by decide) ?_
    have hl := lv_sub hl [] rfl
    exact tr_level_b21 E hA hR hml (fun H locs ls G => W.lret (v := r1) hx hb hr (fun t ht hW => ⟨⟨r1, S1, rfl, ⟨rfl, rfl⟩, ⟨by rw [ht]; exact G.1, va_K.moved hW.alike hK, G.2.1⟩⟩, G.2.2.F ht⟩) G.2.2.2.2 dX12_level_21) _ _ _ _ _ h G hl
def fr_loudest_b84 (k16 : MS → Int32 → Int32 → Option (Int32 × MS)) (k31 : MS → Int32 → Int32 → Int32 → Int32 → Option (Int32 × MS)) (S : MS) (s0 : Int32) (s1 : Int32) (l1 : Int32) (l2 : Int32) (l4 : Int32) : Option (Int32 × MS) := elet (s1 + s0) fun v2 => elet (l4 + Int32.ofInt (1)) fun v3 => k31 S l1 l2 v2 v3
set_option maxHeartbeats 4000000 in
set_option maxRecDepth 100000 in
theorem tr_loudest_b84 {p : Program} {l : Launch} {e : Env} {s : State} {m : MethodId} {args : Array Value} {below : List Frame} {meth : Method} {c : Code} {Q : State → Prop} {D : va_G} {A : Nat → Prop} {H0 : Heap} {cI cJ cZ : ClassId} {ad : Nat → Nat} {r1 : Int32} {S1 : MS} (E : mE p c cX12_loudest s m args (Cond.code yX12_loudest cX12_loudest 5 (some .int) :: wsM) D cI cJ cZ) (hA : ∀ q : Nat, H0.size ≤ q → A q) (hR : sR s) (hml : c.maxLocals = 5) (kr13 : ∀ (H : Heap) (locs : List Loc) (ls : Array Slot), mG D cI cJ cZ ad A H0 H locs S1 → W p l e { frames := 3, cells := 0, slots := 0, locals := 47 } s m args below meth c H locs 0 0 Q (F0 m 13 ls [.int r1])) (kr98 : ∀ (H : Heap) (locs : List Loc) (ls : Array Slot), mG D cI cJ cZ ad A H0 H locs S1 → W p l e { frames := 3, cells := 0, slots := 0, locals := 47 } s m args below meth c H locs 0 0 Q (F0 m 98 ls [.int r1])) (kr106 : ∀ (H : Heap) (locs : List Loc) (ls : Array Slot), mG D cI cJ cZ ad A H0 H locs S1 → W p l e { frames := 3, cells := 0, slots := 0, locals := 47 } s m args below meth c H locs 0 0 Q (F0 m 106 ls [.int r1])) {k16 : MS → Int32 → Int32 → Option (Int32 × MS)} {k31 : MS → Int32 → Int32 → Int32 → Int32 → Option (Int32 × MS)} (hk16 : ∀ (S : MS) (H : Heap) (locs : List Loc) (ls : Array Slot) (l1 : Int32) (l2 : Int32), k16 S l1 l2 = some (r1, S1) → mG D cI cJ cZ ad A H0 H locs S → lv_has ls 5 [(0, .ref (ad 0)), (1, .int l1), (2, .int l2)] → W p l e { frames := 3, cells := 0, slots := 0, locals := 47 } s m args below meth c H locs 0 0 Q (F0 m 16 ls [])) (hk31 : ∀ (S : MS) (H : Heap) (locs : List Loc) (ls : Array Slot) (l1 : Int32) (l2 : Int32) (l3 : Int32) (l4 : Int32), k31 S l1 l2 l3 l4 = some (r1, S1) → mG D cI cJ cZ ad A H0 H locs S → lv_has ls 5 [(0, .ref (ad 0)), (1, .int l1), (2, .int l2), (3, .int l3), (4, .int l4)] → W p l e { frames := 3, cells := 0, slots := 0, locals := 47 } s m args below meth c H locs 0 0 Q (F0 m 31 ls [])) : ∀ (S : MS) (H : Heap) (locs : List Loc) (ls : Array Slot) (s0 : Int32) (s1 : Int32) (l1 : Int32) (l2 : Int32) (l4 : Int32), fr_loudest_b84 k16 k31 S s0 s1 l1 l2 l4 = some (r1, S1) → mG D cI cJ cZ ad A H0 H locs S → lv_has ls 5 [(0, .ref (ad 0)), (1, .int l1), (2, .int l2), (4, .int l4)] → W p l e { frames := 3, cells := 0, slots := 0, locals := 47 } s m args below meth c H locs 0 0 Q (F0 m 84 ls [.int s0, .int s1]) := by
  have hx := E.1
  have hb := E.2.1
  have hts := E.2.2.1
  have hown := E.2.2.2.1
  have hK := E.2.2.2.2.1
  intro S H locs ls s0 s1 l1 l2 l4 h G hl
  unfold fr_loudest_b84 at h
  refine lv_iadd hx hb dX12_loudest_84 ?_
  refine lv_topi (fun v2 ev2 => ?_)
  have h := elet_at ev2 h
  clear ev2
  refine lv_istore_n (lv' := [(3, .int v2), (0, .ref (ad 0)), (1, .int l1), (2, .int l2), (4, .int l4)]) hx hb dX12_loudest_85 rfl hl (by decide) rfl (fun ls hl => ?_)
  obtain ⟨v3, ev3, h⟩ := elet_some h
  refine lv_iinc (v := v3) (lv' := [(4, .int v3), (3, .int v2), (0, .ref (ad 0)), (1, .int l1), (2, .int l2)]) hx hb dX12_loudest_86 hl (k := 4) rfl ev3.symm (by decide) rfl (fun ls hl => ?_)
  refine lv_goto (tgt := 31) hx hb dX12_loudest_89 (by decide) ?_
  have hl := lv_sub hl [2, 3, 4, 1, 0] rfl
  exact hk31 _ _ _ _ _ _ _ _ h G hl
def fr_loudest_b79 (k16 : MS → Int32 → Int32 → Option (Int32 × MS)) (k31 : MS → Int32 → Int32 → Int32 → Int32 → Option (Int32 × MS)) (S : MS) (s0 : Int32) (l1 : Int32) (l2 : Int32) (l4 : Int32) : Option (Int32 × MS) := fr_loudest_b84 k16 k31 S 1 s0 l1 l2 l4
set_option maxHeartbeats 4000000 in
set_option maxRecDepth 100000 in
theorem tr_loudest_b79 {p : Program} {l : Launch} {e : Env} {s : State} {m : MethodId} {args : Array Value} {below : List Frame} {meth : Method} {c : Code} {Q : State → Prop} {D : va_G} {A : Nat → Prop} {H0 : Heap} {cI cJ cZ : ClassId} {ad : Nat → Nat} {r1 : Int32} {S1 : MS} (E : mE p c cX12_loudest s m args (Cond.code yX12_loudest cX12_loudest 5 (some .int) :: wsM) D cI cJ cZ) (hA : ∀ q : Nat, H0.size ≤ q → A q) (hR : sR s) (hml : c.maxLocals = 5) (kr13 : ∀ (H : Heap) (locs : List Loc) (ls : Array Slot), mG D cI cJ cZ ad A H0 H locs S1 → W p l e { frames := 3, cells := 0, slots := 0, locals := 47 } s m args below meth c H locs 0 0 Q (F0 m 13 ls [.int r1])) (kr98 : ∀ (H : Heap) (locs : List Loc) (ls : Array Slot), mG D cI cJ cZ ad A H0 H locs S1 → W p l e { frames := 3, cells := 0, slots := 0, locals := 47 } s m args below meth c H locs 0 0 Q (F0 m 98 ls [.int r1])) (kr106 : ∀ (H : Heap) (locs : List Loc) (ls : Array Slot), mG D cI cJ cZ ad A H0 H locs S1 → W p l e { frames := 3, cells := 0, slots := 0, locals := 47 } s m args below meth c H locs 0 0 Q (F0 m 106 ls [.int r1])) {k16 : MS → Int32 → Int32 → Option (Int32 × MS)} {k31 : MS → Int32 → Int32 → Int32 → Int32 → Option (Int32 × MS)} (hk16 : ∀ (S : MS) (H : Heap) (locs : List Loc) (ls : Array Slot) (l1 : Int32) (l2 : Int32), k16 S l1 l2 = some (r1, S1) → mG D cI cJ cZ ad A H0 H locs S → lv_has ls 5 [(0, .ref (ad 0)), (1, .int l1), (2, .int l2)] → W p l e { frames := 3, cells := 0, slots := 0, locals := 47 } s m args below meth c H locs 0 0 Q (F0 m 16 ls [])) (hk31 : ∀ (S : MS) (H : Heap) (locs : List Loc) (ls : Array Slot) (l1 : Int32) (l2 : Int32) (l3 : Int32) (l4 : Int32), k31 S l1 l2 l3 l4 = some (r1, S1) → mG D cI cJ cZ ad A H0 H locs S → lv_has ls 5 [(0, .ref (ad 0)), (1, .int l1), (2, .int l2), (3, .int l3), (4, .int l4)] → W p l e { frames := 3, cells := 0, slots := 0, locals := 47 } s m args below meth c H locs 0 0 Q (F0 m 31 ls [])) : ∀ (S : MS) (H : Heap) (locs : List Loc) (ls : Array Slot) (s0 : Int32) (l1 : Int32) (l2 : Int32) (l4 : Int32), fr_loudest_b79 k16 k31 S s0 l1 l2 l4 = some (r1, S1) → mG D cI cJ cZ ad A H0 H locs S → lv_has ls 5 [(0, .ref (ad 0)), (1, .int l1), (2, .int l2), (4, .int l4)] → W p l e { frames := 3, cells := 0, slots := 0, locals := 47 } s m args below meth c H locs 0 0 Q (F0 m 79 ls [.int s0]) := by
  have hx := E.1
  have hb := E.2.1
  have hts := E.2.2.1
  have hown := E.2.2.2.1
  have hK := E.2.2.2.2.1
  intro S H locs ls s0 l1 l2 l4 h G hl
  unfold fr_loudest_b79 at h
  refine lv_iconst (v := 1) hx hb dX12_loudest_79 (by decide) ?_
  refine lv_goto (tgt := 84) hx hb dX12_loudest_80 (by decide) ?_
  have hl := lv_sub hl [0, 1, 2, 3] rfl
  exact tr_loudest_b84 E hA hR hml kr13 kr98 kr106 hk16 hk31 _ _ _ _ _ _ _ _ _ h G hl
def fr_loudest_b83 (k16 : MS → Int32 → Int32 → Option (Int32 × MS)) (k31 : MS → Int32 → Int32 → Int32 → Int32 → Option (Int32 × MS)) (S : MS) (s0 : Int32) (l1 : Int32) (l2 : Int32) (l4 : Int32) : Option (Int32 × MS) := fr_loudest_b84 k16 k31 S 0 s0 l1 l2 l4
set_option maxHeartbeats 4000000 in
set_option maxRecDepth 100000 in
theorem tr_loudest_b83 {p : Program} {l : Launch} {e : Env} {s : State} {m : MethodId} {args : Array Value} {below : List Frame} {meth : Method} {c : Code} {Q : State → Prop} {D : va_G} {A : Nat → Prop} {H0 : Heap} {cI cJ cZ : ClassId} {ad : Nat → Nat} {r1 : Int32} {S1 : MS} (E : mE p c cX12_loudest s m args (Cond.code yX12_loudest cX12_loudest 5 (some .int) :: wsM) D cI cJ cZ) (hA : ∀ q : Nat, H0.size ≤ q → A q) (hR : sR s) (hml : c.maxLocals = 5) (kr13 : ∀ (H : Heap) (locs : List Loc) (ls : Array Slot), mG D cI cJ cZ ad A H0 H locs S1 → W p l e { frames := 3, cells := 0, slots := 0, locals := 47 } s m args below meth c H locs 0 0 Q (F0 m 13 ls [.int r1])) (kr98 : ∀ (H : Heap) (locs : List Loc) (ls : Array Slot), mG D cI cJ cZ ad A H0 H locs S1 → W p l e { frames := 3, cells := 0, slots := 0, locals := 47 } s m args below meth c H locs 0 0 Q (F0 m 98 ls [.int r1])) (kr106 : ∀ (H : Heap) (locs : List Loc) (ls : Array Slot), mG D cI cJ cZ ad A H0 H locs S1 → W p l e { frames := 3, cells := 0, slots := 0, locals := 47 } s m args below meth c H locs 0 0 Q (F0 m 106 ls [.int r1])) {k16 : MS → Int32 → Int32 → Option (Int32 × MS)} {k31 : MS → Int32 → Int32 → Int32 → Int32 → Option (Int32 × MS)} (hk16 : ∀ (S : MS) (H : Heap) (locs : List Loc) (ls : Array Slot) (l1 : Int32) (l2 : Int32), k16 S l1 l2 = some (r1, S1) → mG D cI cJ cZ ad A H0 H locs S → lv_has ls 5 [(0, .ref (ad 0)), (1, .int l1), (2, .int l2)] → W p l e { frames := 3, cells := 0, slots := 0, locals := 47 } s m args below meth c H locs 0 0 Q (F0 m 16 ls [])) (hk31 : ∀ (S : MS) (H : Heap) (locs : List Loc) (ls : Array Slot) (l1 : Int32) (l2 : Int32) (l3 : Int32) (l4 : Int32), k31 S l1 l2 l3 l4 = some (r1, S1) → mG D cI cJ cZ ad A H0 H locs S → lv_has ls 5 [(0, .ref (ad 0)), (1, .int l1), (2, .int l2), (3, .int l3), (4, .int l4)] → W p l e { frames := 3, cells := 0, slots := 0, locals := 47 } s m args below meth c H locs 0 0 Q (F0 m 31 ls [])) : ∀ (S : MS) (H : Heap) (locs : List Loc) (ls : Array Slot) (s0 : Int32) (l1 : Int32) (l2 : Int32) (l4 : Int32), fr_loudest_b83 k16 k31 S s0 l1 l2 l4 = some (r1, S1) → mG D cI cJ cZ ad A H0 H locs S → lv_has ls 5 [(0, .ref (ad 0)), (1, .int l1), (2, .int l2), (4, .int l4)] → W p l e { frames := 3, cells := 0, slots := 0, locals := 47 } s m args below meth c H locs 0 0 Q (F0 m 83 ls [.int s0]) := by
  have hx := E.1
  have hb := E.2.1
  have hts := E.2.2.1
  have hown := E.2.2.2.1
  have hK := E.2.2.2.2.1
  intro S H locs ls s0 l1 l2 l4 h G hl
  unfold fr_loudest_b83 at h
  refine lv_iconst (v := 0) hx hb dX12_loudest_83 (by decide) ?_
  have hl := lv_sub hl [0, 1, 2, 3] rfl
  exact tr_loudest_b84 E hA hR hml kr13 kr98 kr106 hk16 hk31 _ _ _ _ _ _ _ _ _ h G hl
def fr_loudest_b31 (k16 : MS → Int32 → Int32 → Option (Int32 × MS)) : Nat → MS → Int32 → Int32 → Int32 → Int32 → Option (Int32 × MS)
  | 0, _, _, _, _, _ => none
  | n + 1, S, l1, l2, l3, l4 => elet (S.2.1 10 4) fun v2 => if v2 ≤ l4 then (if l3 = l1 then (some (l2, S)) else (elet (l2 + Int32.ofInt (1)) fun v5 => k16 S l1 v5)) else (obind2 (fr_levelOf S l4) fun r9 S6 => obind2 (fr_levelOf S6 l2) fun r13 S10 => elet (lg_cmp r9 r13) fun v14 => if 0 < v14 then (fr_loudest_b79 k16 (fr_loudest_b31 k16 n) S10 l3 l1 l2 l4) else (obind2 (fr_levelOf S10 l4) fun r19 S16 => obind2 (fr_levelOf S16 l2) fun r23 S20 => elet (lg_cmp r19 r23) fun v24 => if v24 = 0 then (if l2 ≤ l4 then (fr_loudest_b83 k16 (fr_loudest_b31 k16 n) S20 l3 l1 l2 l4) else (fr_loudest_b79 k16 (fr_loudest_b31 k16 n) S20 l3 l1 l2 l4)) else (fr_loudest_b83 k16 (fr_loudest_b31 k16 n) S20 l3 l1 l2 l4)))
set_option maxHeartbeats 4000000 in
set_option maxRecDepth 100000 in
theorem tr_loudest_b31 {p : Program} {l : Launch} {e : Env} {s : State} {m : MethodId} {args : Array Value} {below : List Frame} {meth : Method} {c : Code} {Q : State → Prop} {D : va_G} {A : Nat → Prop} {H0 : Heap} {cI cJ cZ : ClassId} {ad : Nat → Nat} {r1 : Int32} {S1 : MS} (E : mE p c cX12_loudest s m args (Cond.code yX12_loudest cX12_loudest 5 (some .int) :: wsM) D cI cJ cZ) (hA : ∀ q : Nat, H0.size ≤ q → A q) (hR : sR s) (hml : c.maxLocals = 5) (kr13 : ∀ (H : Heap) (locs : List Loc) (ls : Array Slot), mG D cI cJ cZ ad A H0 H locs S1 → W p l e { frames := 3, cells := 0, slots := 0, locals := 47 } s m args below meth c H locs 0 0 Q (F0 m 13 ls [.int r1])) (kr98 : ∀ (H : Heap) (locs : List Loc) (ls : Array Slot), mG D cI cJ cZ ad A H0 H locs S1 → W p l e { frames := 3, cells := 0, slots := 0, locals := 47 } s m args below meth c H locs 0 0 Q (F0 m 98 ls [.int r1])) (kr106 : ∀ (H : Heap) (locs : List Loc) (ls : Array Slot), mG D cI cJ cZ ad A H0 H locs S1 → W p l e { frames := 3, cells := 0, slots := 0, locals := 47 } s m args below meth c H locs 0 0 Q (F0 m 106 ls [.int r1])) {k16 : MS → Int32 → Int32 → Option (Int32 × MS)} (hk16 : ∀ (S : MS) (H : Heap) (locs : List Loc) (ls : Array Slot) (l1 : Int32) (l2 : Int32), k16 S l1 l2 = some (r1, S1) → mG D cI cJ cZ ad A H0 H locs S → lv_has ls 5 [(0, .ref (ad 0)), (1, .int l1), (2, .int l2)] → W p l e { frames := 3, cells := 0, slots := 0, locals := 47 } s m args below meth c H locs 0 0 Q (F0 m 16 ls [])) : ∀ n : Nat, ∀ (S : MS) (H : Heap) (locs : List Loc) (ls : Array Slot) (l1 : Int32) (l2 : Int32) (l3 : Int32) (l4 : Int32), fr_loudest_b31 k16 n S l1 l2 l3 l4 = some (r1, S1) → mG D cI cJ cZ ad A H0 H locs S → lv_has ls 5 [(0, .ref (ad 0)), (1, .int l1), (2, .int l2), (3, .int l3), (4, .int l4)] → W p l e { frames := 3, cells := 0, slots := 0, locals := 47 } s m args below meth c H locs 0 0 Q (F0 m 31 ls []) := by
  have hx := E.1
  have hb := E.2.1
  have hts := E.2.2.1
  have hown := E.2.2.2.1
  have hK := E.2.2.2.2.1
  intro n
  induction n with
  | zero =>
    intro S H locs ls l1 l2 l3 l4 h
    have h : (none : Option (Int32 × MS)) = some (r1, S1) := h
    cases h
  | succ n ih =>
    intro S H locs ls l1 l2 l3 l4 h G hl
    unfold fr_loudest_b31 at h
    refine lv_iload hx hb dX12_loudest_31 (lv_at hl 4 rfl) ?_
    refine lv_aload_n hx hb dX12_loudest_33 rfl (lv_at hl 0 rfl) ?_
    refine m_get E G 10 (v := .ref (ad 10)) (by decide) (.tail _ qM_7) rfl dX12_loudest_34 rfl ?_
    refine lv_iconst (v := 4) hx hb dX12_loudest_37 (by decide) ?_
    refine m_iald E G 10 2 (n := 131) (k := 4) rfl rfl (by decide) (by decide) dX12_loudest_38 ?_
    refine lv_topi (fun v2 ev2 => ?_)
    have h := elet_at ev2 h
    clear ev2
    refine lv_icmp_ge (tgt := 92) hx hb dX12_loudest_39 (by decide) (fun c3 => ?_) (fun c3 => ?_)
    · have h := oif_pos c3 h
      refine lv_iload_n hx hb dX12_loudest_92 rfl (lv_at hl 3 rfl) ?_
      refine lv_iload_n hx hb dX12_loudest_93 rfl (lv_at hl 1 rfl) ?_
      refine lv_icmp_ne (tgt := 99) hx hb dX12_loudest_94 (by decide) (fun c4 => ?_) (fun c4 => ?_)
      · have h := oif_neg c4 h
        obtain ⟨v5, ev5, h⟩ := elet_some h
        refine lv_iinc (v := v5) (lv' := [(2, .int v5), (0, .ref (ad 0)), (1, .int l1), (3, .int l3), (4, .int l4)]) hx hb dX12_loudest_99 hl (k := 2) rfl ev5.symm (by decide) rfl (fun ls hl => ?_)
        refine lv_goto (tgt := 16) hx hb dX12_loudest_102 (by decide) ?_
        have hl := lv_sub hl [1, 2, 0] rfl
        exact hk16 _ _ _ _ _ _ h G hl
      · have h := oif_pos c4 h
        refine lv_iload_n hx hb dX12_loudest_97 rfl (lv_at hl 2 rfl) ?_
        rw [(osome2 h).2] at G
        refine lv_to (osome2 h).1 ?_
        exact kr98 _ _ _ G
    · have h := oif_neg c3 h
      refine lv_iload_n hx hb dX12_loudest_42 rfl (lv_at hl 3 rfl) ?_
      refine lv_aload_n hx hb dX12_loudest_43 rfl (lv_at hl 0 rfl) ?_
      refine lv_iload hx hb dX12_loudest_44 (lv_at hl 4 rfl) ?_
      obtain ⟨r9, S6, eS6, h⟩ := obind2_some h
      refine m_calll (As := [.int l4]) (rest := [.int l3]) E G hA hR hml (tr_levelOf l D cI cJ cZ ad S l4 eS6) (cwV 1 hts (gmV qM_464 qM_465 qM_466 qM_35 qM_462) rfl rfl rfl (by decide +kernel) ⟨Nat.le_of_ble_eq_true rfl, Nat.le_of_ble_eq_true rfl⟩) rfl hl.1 rfl (lv_room (Nat.le_of_ble_eq_true rfl)) dX12_loudest_46 ⟨Nat.zero_le _, Nat.zero_le _⟩ (fun q7 S8 H locs hq G => ?_)
      obtain ⟨hq1, hq2⟩ := hq
      rw [hq2] at G
      refine lv_tol hq1 ?_
      clear hq1 hq2 eS6
      refine lv_aload_n hx hb dX12_loudest_49 rfl (lv_at hl 0 rfl) ?_
      refine lv_iload_n hx hb dX12_loudest_50 rfl (lv_at hl 2 rfl) ?_
      obtain ⟨r13, S10, eS10, h⟩ := obind2_some h
      refine m_calll (As := [.int l2]) (rest := [.long r9, .int l3]) E G hA hR hml (tr_levelOf l D cI cJ cZ ad S6 l2 eS10) (cwV 1 hts (gmV qM_464 qM_465 qM_466 qM_35 qM_462) rfl rfl rfl (by decide +kernel) ⟨Nat.le_of_ble_eq_true rfl, Nat.le_of_ble_eq_true rfl⟩) rfl hl.1 rfl (lv_room (Nat.le_of_ble_eq_true rfl)) dX12_loudest_51 ⟨Nat.zero_le _, Nat.zero_le _⟩ (fun q11 S12 H locs hq G => ?_)
      obtain ⟨hq1, hq2⟩ := hq
      rw [hq2] at G
      refine lv_tol hq1 ?_
      clear hq1 hq2 eS10
      refine W.lcmp hx hb dX12_loudest_54 ?_
      refine lv_topi (fun v14 ev14 => ?_)
      have h := elet_at ev14 h
      clear ev14
      refine lv_if_gt (tgt := 79) hx hb dX12_loudest_55 (by decide) (fun c15 => ?_) (fun c15 => ?_)
      · have h := oif_pos c15 h
        have hl := lv_sub hl [0, 1, 2, 4] rfl
        exact tr_loudest_b79 E hA hR hml kr13 kr98 kr106 hk16 ih _ _ _ _ _ _ _ _ h G hl
      · have h := oif_neg c15 h
        refine lv_aload_n hx hb dX12_loudest_58 rfl (lv_at hl 0 rfl) ?_
        refine lv_iload hx hb dX12_loudest_59 (lv_at hl 4 rfl) ?_
        obtain ⟨r19, S16, eS16, h⟩ := obind2_some h
        refine m_calll (As := [.int l4]) (rest := [.int l3]) E G hA hR hml (tr_levelOf l D cI cJ cZ ad S10 l4 eS16) (cwV 1 hts (gmV qM_464 qM_465 qM_466 qM_35 qM_462) rfl rfl rfl (by decide +kernel) ⟨Nat.le_of_ble_eq_true rfl, Nat.le_of_ble_eq_true rfl⟩) rfl hl.1 rfl (lv_room (Nat.le_of_ble_eq_true rfl)) dX12_loudest_61 ⟨Nat.zero_le _, Nat.zero_le _⟩ (fun q17 S18 H locs hq G => ?_)
        obtain ⟨hq1, hq2⟩ := hq
        rw [hq2] at G
        refine lv_tol hq1 ?_
        clear hq1 hq2 eS16
        refine lv_aload_n hx hb dX12_loudest_64 rfl (lv_at hl 0 rfl) ?_
        refine lv_iload_n hx hb dX12_loudest_65 rfl (lv_at hl 2 rfl) ?_
        obtain ⟨r23, S20, eS20, h⟩ := obind2_some h
        refine m_calll (As := [.int l2]) (rest := [.long r19, .int l3]) E G hA hR hml (tr_levelOf l D cI cJ cZ ad S16 l2 eS20) (cwV 1 hts (gmV qM_464 qM_465 qM_466 qM_35 qM_462) rfl rfl rfl (by decide +kernel) ⟨Nat.le_of_ble_eq_true rfl, Nat.le_of_ble_eq_true rfl⟩) rfl hl.1 rfl (lv_room (Nat.le_of_ble_eq_true rfl)) dX12_loudest_66 ⟨Nat.zero_le _, Nat.zero_le _⟩ (fun q21 S22 H locs hq G => ?_)
        obtain ⟨hq1, hq2⟩ := hq
        rw [hq2] at G
        refine lv_tol hq1 ?_
        clear hq1 hq2 eS20
        refine W.lcmp hx hb dX12_loudest_69 ?_
        refine lv_topi (fun v24 ev24 => ?_)
        have h := elet_at ev24 h
        clear ev24
        refine lv_if_ne (tgt := 83) hx hb dX12_loudest_70 (by decide) (fun c25 => ?_) (fun c25 => ?_)
        · have h := oif_neg c25 h
          have hl := lv_sub hl [0, 1, 2, 4] rfl
          exact tr_loudest_b83 E hA hR hml kr13 kr98 kr106 hk16 ih _ _ _ _ _ _ _ _ h G hl
        · have h := oif_pos c25 h
          refine lv_iload hx hb dX12_loudest_73 (lv_at hl 4 rfl) ?_
          refine lv_iload_n hx hb dX12_loudest_75 rfl (lv_at hl 2 rfl) ?_
          refine lv_icmp_ge (tgt := 83) hx hb dX12_loudest_76 (by decide) (fun c26 => ?_) (fun c26 => ?_)
          · have h := oif_pos c26 h
            have hl := lv_sub hl [0, 1, 2, 4] rfl
            exact tr_loudest_b83 E hA hR hml kr13 kr98 kr106 hk16 ih _ _ _ _ _ _ _ _ h G hl
          · have h := oif_neg c26 h
            have hl := lv_sub hl [0, 1, 2, 4] rfl
            exact tr_loudest_b79 E hA hR hml kr13 kr98 kr106 hk16 ih _ _ _ _ _ _ _ _ h G hl
def fr_loudest_b16  : Nat → MS → Int32 → Int32 → Option (Int32 × MS)
  | 0, _, _, _ => none
  | n + 1, S, l1, l2 => elet (S.2.1 10 4) fun v2 => if v2 ≤ l2 then (some ((-1), S)) else (fr_loudest_b31 (fr_loudest_b16 n) 16384 S l1 l2 0 0)
set_option maxHeartbeats 4000000 in
set_option maxRecDepth 100000 in
theorem tr_loudest_b16 {p : Program} {l : Launch} {e : Env} {s : State} {m : MethodId} {args : Array Value} {below : List Frame} {meth : Method} {c : Code} {Q : State → Prop} {D : va_G} {A : Nat → Prop} {H0 : Heap} {cI cJ cZ : ClassId} {ad : Nat → Nat} {r1 : Int32} {S1 : MS} (E : mE p c cX12_loudest s m args (Cond.code yX12_loudest cX12_loudest 5 (some .int) :: wsM) D cI cJ cZ) (hA : ∀ q : Nat, H0.size ≤ q → A q) (hR : sR s) (hml : c.maxLocals = 5) (kr13 : ∀ (H : Heap) (locs : List Loc) (ls : Array Slot), mG D cI cJ cZ ad A H0 H locs S1 → W p l e { frames := 3, cells := 0, slots := 0, locals := 47 } s m args below meth c H locs 0 0 Q (F0 m 13 ls [.int r1])) (kr98 : ∀ (H : Heap) (locs : List Loc) (ls : Array Slot), mG D cI cJ cZ ad A H0 H locs S1 → W p l e { frames := 3, cells := 0, slots := 0, locals := 47 } s m args below meth c H locs 0 0 Q (F0 m 98 ls [.int r1])) (kr106 : ∀ (H : Heap) (locs : List Loc) (ls : Array Slot), mG D cI cJ cZ ad A H0 H locs S1 → W p l e { frames := 3, cells := 0, slots := 0, locals := 47 } s m args below meth c H locs 0 0 Q (F0 m 106 ls [.int r1])) : ∀ n : Nat, ∀ (S : MS) (H : Heap) (locs : List Loc) (ls : Array Slot) (l1 : Int32) (l2 : Int32), fr_loudest_b16 n S l1 l2 = some (r1, S1) → mG D cI cJ cZ ad A H0 H locs S → lv_has ls 5 [(0, .ref (ad 0)), (1, .int l1), (2, .int l2)] → W p l e { frames := 3, cells := 0, slots := 0, locals := 47 } s m args below meth c H locs 0 0 Q (F0 m 16 ls []) := by
  have hx := E.1
  have hb := E.2.1
  have hts := E.2.2.1
  have hown := E.2.2.2.1
  have hK := E.2.2.2.2.1
  intro n
  induction n with
  | zero =>
    intro S H locs ls l1 l2 h
    have h : (none : Option (Int32 × MS)) = some (r1, S1) := h
    cases h
  | succ n ih =>
    intro S H locs ls l1 l2 h G hl
    unfold fr_loudest_b16 at h
    refine lv_iload_n hx hb dX12_loudest_16 rfl (lv_at hl 2 rfl) ?_
    refine lv_aload_n hx hb dX12_loudest_17 rfl (lv_at hl 0 rfl) ?_
    refine m_get E G 10 (v := .ref (ad 10)) (by decide) (.tail _ qM_7) rfl dX12_loudest_18 rfl ?_
    refine lv_iconst (v := 4) hx hb dX12_loudest_21 (by decide) ?_
    refine m_iald E G 10 2 (n := 131) (k := 4) rfl rfl (by decide) (by decide) dX12_loudest_22 ?_
    refine lv_topi (fun v2 ev2 => ?_)
    have h := elet_at ev2 h
    clear ev2
    refine lv_icmp_ge (tgt := 105) hx hb dX12_loudest_23 (by decide) (fun c3 => ?_) (fun c3 => ?_)
    · have h := oif_pos c3 h
      refine lv_iconst (v := (-1)) hx hb dX12_loudest_105 (by decide) ?_
      rw [(osome2 h).2] at G
      refine lv_to (osome2 h).1 ?_
      exact kr106 _ _ _ G
    · have h := oif_neg c3 h
      refine lv_iconst (v := 0) hx hb dX12_loudest_26 (by decide) ?_
      refine lv_istore_n (lv' := [(3, .int 0), (0, .ref (ad 0)), (1, .int l1), (2, .int l2)]) hx hb dX12_loudest_27 rfl hl (by decide) rfl (fun ls hl => ?_)
      refine lv_iconst (v := 0) hx hb dX12_loudest_28 (by decide) ?_
      refine lv_istore (lv' := [(4, .int 0), (3, .int 0), (0, .ref (ad 0)), (1, .int l1), (2, .int l2)]) hx hb dX12_loudest_29 hl (by decide) rfl (fun ls hl => ?_)
      have hl := lv_sub hl [2, 3, 4, 1, 0] rfl
      exact tr_loudest_b31 E hA hR hml kr13 kr98 kr106 ih _ _ _ _ _ _ _ _ _ h G hl
def fr_loudest (S : MS) (a0 : Int32) : Option (Int32 × MS) := obind2 (fr_isMic S a0) fun r5 S2 => obind2 (fr_mayAsk S2 r5) fun r9 S6 => if r9 = 0 then (some (0, S6)) else (fr_loudest_b16 16384 S6 a0 0)
set_option maxHeartbeats 4000000 in
set_option maxRecDepth 100000 in
theorem tr_loudest (l : Launch) (D : va_G) (cI cJ cZ : ClassId) (ad : Nat → Nat) (S : MS) (a0 : Int32) {r1 : Int32} {S1 : MS} (h : fr_loudest S a0 = some (r1, S1)) : mCi l yX12_loudest (Cond.code yX12_loudest cX12_loudest 5 (some .int) :: wsM) 3 47 D cI cJ cZ ad S [.int a0] (fun r S9 => r = r1 ∧ S9 = S1) := by
  intro sz
  refine Met.ofW (cc := cX12_loudest) (maxL := 5) (ret := (some .int)) (by decide) rfl ?_
  intro p e s m args below meth c s₁ B hml hv
  obtain ⟨rfl, hsz, hP, hK, hD0, hR⟩ := hv
  have hx := B.exec
  have hb := B.bytes
  have hr := B.returns
  have hts := atoms_spec (ws := (Cond.code yX12_loudest cX12_loudest 5 (some .int) :: wsM)) B.pre
  have hown : s.vm.findClass RX12 = some m.cls := findClass_of_methodNamed B.named
  have hlocks := B.notSynchronized
  subst hsz
  have hD := hD0.self (sz := s.heap.size)
  generalize hAe : va_A (MW cI cJ cZ ad S) s.heap.size = A at hD ⊢
  have hA : ∀ q : Nat, s.heap.size ≤ q → A q := fun q h => by rw [← hAe]; exact Or.inr h
  have G : mG D cI cJ cZ ad A s.heap s.heap [] S := ⟨hP, hD, va_S.rf⟩
  have E : mE p c cX12_loudest s m ([.ref (ad 0), .int a0] : List Value).toArray (Cond.code yX12_loudest cX12_loudest 5 (some .int) :: wsM) D cI cJ cZ := ⟨hx, hb, hts, hown, hK, fun w h => .tail _ (iM_x h)⟩
  have hl := lv_entry ([.ref (ad 0), .int a0]) (n := 5) (Nat.le_of_ble_eq_true rfl)
  rw [lg_entry_eq]
  generalize (lg_sl ([.ref (ad 0), .int a0]) ++ List.replicate (5 - (lg_sl ([.ref (ad 0), .int a0])).length) Slot.unset).toArray = ls at hl ⊢
  have hl : lv_has ls 5 [(0, .ref (ad 0)), (1, .int a0)] := hl
  unfold fr_loudest at h
  refine lv_aload_n hx hb dX12_loudest_0 rfl (lv_at hl 0 rfl) ?_
  refine lv_aload_n hx hb dX12_loudest_1 rfl (lv_at hl 0 rfl) ?_
  refine lv_iload_n hx hb dX12_loudest_2 rfl (lv_at hl 1 rfl) ?_
  obtain ⟨r5, S2, eS2, h⟩ := obind2_some h
  refine m_calli (As := [.int a0]) (rest := [.ref (ad 0)]) E G hA hR hml (tr_isMic l D cI cJ cZ ad S a0 eS2) (cwV 1 hts (gmV qM_316 qM_317 qM_318 qM_35 qM_306) rfl rfl rfl (by decide +kernel) ⟨Nat.le_of_ble_eq_true rfl, Nat.le_of_ble_eq_true rfl⟩) rfl hl.1 rfl (lv_room (Nat.le_of_ble_eq_true rfl)) dX12_loudest_3 ⟨Nat.zero_le _, Nat.zero_le _⟩ (fun q3 S4 H locs hq G => ?_)
  obtain ⟨hq1, hq2⟩ := hq
  rw [hq2] at G
  refine lv_to hq1 ?_
  clear hq1 hq2 eS2
  obtain ⟨r9, S6, eS6, h⟩ := obind2_some h
  refine m_calli (As := [.int r5]) (rest := []) E G hA hR hml (tr_mayAsk l D cI cJ cZ ad S2 r5 eS6) (cwV 1 hts (gmV qM_319 qM_320 qM_321 qM_35 qM_304) rfl rfl rfl (by decide +kernel) ⟨Nat.le_of_ble_eq_true rfl, Nat.le_of_ble_eq_true rfl⟩) rfl hl.1 rfl (lv_room (Nat.le_of_ble_eq_true rfl)) dX12_loudest_6 ⟨Nat.zero_le _, Nat.zero_le _⟩ (fun q7 S8 H locs hq G => ?_)
  obtain ⟨hq1, hq2⟩ := hq
  rw [hq2] at G
  refine lv_to hq1 ?_
  clear hq1 hq2 eS6
  refine lv_if_ne (tgt := 14) hx hb dX12_loudest_9 (by decide) (fun c10 => ?_) (fun c10 => ?_)
  · have h := oif_neg c10 h
    refine lv_iconst (v := 0) hx hb dX12_loudest_14 (by decide) ?_
    refine lv_istore_n (lv' := [(2, .int 0), (0, .ref (ad 0)), (1, .int a0)]) hx hb dX12_loudest_15 rfl hl (by decide) rfl (fun ls hl => ?_)
    have hl := lv_sub hl [1, 2, 0] rfl
    exact tr_loudest_b16 E hA hR hml (fun H locs ls G => W.iret (v := r1) hx hb hr (fun t ht hW => ⟨⟨r1, S1, rfl, ⟨rfl, rfl⟩, ⟨by rw [ht]; exact G.1, va_K.moved hW.alike hK, G.2.1⟩⟩, G.2.2.F ht⟩) G.2.2.2.2 dX12_loudest_13) (fun H locs ls G => W.iret (v := r1) hx hb hr (fun t ht hW => ⟨⟨r1, S1, rfl, ⟨rfl, rfl⟩, ⟨by rw [ht]; exact G.1, va_K.moved hW.alike hK, G.2.1⟩⟩, G.2.2.F ht⟩) G.2.2.2.2 dX12_loudest_98) (fun H locs ls G => W.iret (v := r1) hx hb hr (fun t ht hW => ⟨⟨r1, S1, rfl, ⟨rfl, rfl⟩, ⟨by rw [ht]; exact G.1, va_K.moved hW.alike hK, G.2.1⟩⟩, G.2.2.F ht⟩) G.2.2.2.2 dX12_loudest_106) _ _ _ _ _ _ _ h G hl
  · have h := oif_pos c10 h
    refine lv_iconst (v := 0) hx hb dX12_loudest_12 (by decide) ?_
    exact W.iret (v := 0) hx hb hr (fun t ht hW => ⟨⟨0, S6, rfl, osome2 h, ⟨by rw [ht]; exact G.1, va_K.moved hW.alike hK, G.2.1⟩⟩, G.2.2.F ht⟩) G.2.2.2.2 dX12_loudest_13
def fr_writeMap_b109 (k31 : MS → Int64 → Int32 → Option (Int32 × MS)) (S : MS) (s0 : Int32) (s1 : Int32) (s2 : Int32) (l1 : Int64) (l3 : Int32) : Option (Int32 × MS) := elet (s1 + s0) fun v2 => oif (inb s2 160 = true) <| elet (mf S 27 (upd (S.2.1 27) s2.toNatClampNeg v2)) fun S4 => elet (S4.1 28) fun v5 => elet (v5 + 1) fun v6 => elet (mi S4 28 v6) fun S7 => elet (l3 + Int32.ofInt (1)) fun v8 => k31 S7 l1 v8
set_option maxHeartbeats 4000000 in
set_option maxRecDepth 100000 in
theorem tr_writeMap_b109 {p : Program} {l : Launch} {e : Env} {s : State} {m : MethodId} {args : Array Value} {below : List Frame} {meth : Method} {c : Code} {Q : State → Prop} {D : va_G} {A : Nat → Prop} {H0 : Heap} {cI cJ cZ : ClassId} {ad : Nat → Nat} {r1 : Int32} {S1 : MS} (E : mE p c cX12_writeMap s m args (Cond.code yX12_writeMap cX12_writeMap 4 (some .int) :: wsM) D cI cJ cZ) (hA : ∀ q : Nat, H0.size ≤ q → A q) (hR : sR s) (hml : c.maxLocals = 4) (kr9 : ∀ (H : Heap) (locs : List Loc) (ls : Array Slot), mG D cI cJ cZ ad A H0 H locs S1 → W p l e { frames := 8, cells := 0, slots := 0, locals := 163 } s m args below meth c H locs 0 0 Q (F0 m 9 ls [.int r1])) (kr131 : ∀ (H : Heap) (locs : List Loc) (ls : Array Slot), mG D cI cJ cZ ad A H0 H locs S1 → W p l e { frames := 8, cells := 0, slots := 0, locals := 163 } s m args below meth c H locs 0 0 Q (F0 m 131 ls [.int r1])) {k31 : MS → Int64 → Int32 → Option (Int32 × MS)} (hk31 : ∀ (S : MS) (H : Heap) (locs : List Loc) (ls : Array Slot) (l1 : Int64) (l3 : Int32), k31 S l1 l3 = some (r1, S1) → mG D cI cJ cZ ad A H0 H locs S → lv_has ls 4 [(0, .ref (ad 0)), (1, .long l1), (3, .int l3)] → W p l e { frames := 8, cells := 0, slots := 0, locals := 163 } s m args below meth c H locs 0 0 Q (F0 m 31 ls [])) : ∀ (S : MS) (H : Heap) (locs : List Loc) (ls : Array Slot) (s0 : Int32) (s1 : Int32) (s2 : Int32) (l1 : Int64) (l3 : Int32), fr_writeMap_b109 k31 S s0 s1 s2 l1 l3 = some (r1, S1) → mG D cI cJ cZ ad A H0 H locs S → lv_has ls 4 [(0, .ref (ad 0)), (1, .long l1), (3, .int l3)] → W p l e { frames := 8, cells := 0, slots := 0, locals := 163 } s m args below meth c H locs 0 0 Q (F0 m 109 ls [.int s0, .int s1, .int s2, .ref (ad 27)]) := by
  have hx := E.1
  have hb := E.2.1
  have hts := E.2.2.1
  have hown := E.2.2.2.1
  have hK := E.2.2.2.2.1
  intro S H locs ls s0 s1 s2 l1 l3 h G hl
  unfold fr_writeMap_b109 at h
  refine lv_iadd hx hb dX12_writeMap_109 ?_
  refine lv_topi (fun v2 ev2 => ?_)
  have h := elet_at ev2 h
  clear ev2
  obtain ⟨g3, h⟩ := oif_some h
  refine m_iast E G 27 15 (k := s2.toNatClampNeg) (v := v2) rfl (fun _ => rfl) (inb_k g3).1 (inb_k g3).2 (by decide) dX12_writeMap_110 (fun H locs G => ?_)
  obtain ⟨S4, eS4, h⟩ := elet_some h
  rw [← eS4] at G
  clear eS4
  refine lv_aload_n hx hb dX12_writeMap_111 rfl (lv_at hl 0 rfl) ?_
  refine lv_dup hx hb dX12_writeMap_112 rfl ?_
  refine m_get E G 28 (v := .int (S4.1 28)) (by decide) (.tail _ qM_469) rfl dX12_writeMap_113 rfl ?_
  refine lv_topi (fun v5 ev5 => ?_)
  have h := elet_at ev5 h
  clear ev5
  refine lv_iconst (v := 1) hx hb dX12_writeMap_116 (by decide) ?_
  refine lv_iadd hx hb dX12_writeMap_117 ?_
  refine lv_topi (fun v6 ev6 => ?_)
  have h := elet_at ev6 h
  clear ev6
  refine m_put E G 28 (by decide) (.tail _ qM_469) (mw_i28 _ _ _ _ _ v6) dX12_writeMap_118 ⟨rfl, rfl, rfl⟩ rfl rfl (fun H locs G => ?_)
  obtain ⟨S7, eS7, h⟩ := elet_some h
  rw [← eS7] at G
  clear eS7
  obtain ⟨v8, ev8, h⟩ := elet_some h
  refine lv_iinc (v := v8) (lv' := [(3, .int v8), (0, .ref (ad 0)), (1, .long l1)]) hx hb dX12_writeMap_121 hl (k := 2) rfl ev8.symm (by decide) rfl (fun ls hl => ?_)
  refine lv_goto (tgt := 31) hx hb dX12_writeMap_124 (by decide) ?_
  have hl := lv_sub hl [1, 2, 0] rfl
  exact hk31 _ _ _ _ _ _ h G hl
def fr_writeMap_b76 (k31 : MS → Int64 → Int32 → Option (Int32 × MS)) (S : MS) (l1 : Int64) (l3 : Int32) : Option (Int32 × MS) := elet (S.1 28) fun v2 => elet (lg_cmp l1 (0 : Int64)) fun v3 => if v3 = 0 then (fr_writeMap_b109 k31 S 0 48 v2 l1 l3) else (oif (inb l3 144 = true) <| elet (S.2.2 25 l3.toNatClampNeg) fun v6 => elet ((9 : Int64) * v6) fun v7 => oif (¬ l1 = 0) <| elet (v7 / l1) fun v9 => elet (v9.toInt32) fun v10 => fr_writeMap_b109 k31 S v10 48 v2 l1 l3)
set_option maxHeartbeats 4000000 in
set_option maxRecDepth 100000 in
theorem tr_writeMap_b76 {p : Program} {l : Launch} {e : Env} {s : State} {m : MethodId} {args : Array Value} {below : List Frame} {meth : Method} {c : Code} {Q : State → Prop} {D : va_G} {A : Nat → Prop} {H0 : Heap} {cI cJ cZ : ClassId} {ad : Nat → Nat} {r1 : Int32} {S1 : MS} (E : mE p c cX12_writeMap s m args (Cond.code yX12_writeMap cX12_writeMap 4 (some .int) :: wsM) D cI cJ cZ) (hA : ∀ q : Nat, H0.size ≤ q → A q) (hR : sR s) (hml : c.maxLocals = 4) (kr9 : ∀ (H : Heap) (locs : List Loc) (ls : Array Slot), mG D cI cJ cZ ad A H0 H locs S1 → W p l e { frames := 8, cells := 0, slots := 0, locals := 163 } s m args below meth c H locs 0 0 Q (F0 m 9 ls [.int r1])) (kr131 : ∀ (H : Heap) (locs : List Loc) (ls : Array Slot), mG D cI cJ cZ ad A H0 H locs S1 → W p l e { frames := 8, cells := 0, slots := 0, locals := 163 } s m args below meth c H locs 0 0 Q (F0 m 131 ls [.int r1])) {k31 : MS → Int64 → Int32 → Option (Int32 × MS)} (hk31 : ∀ (S : MS) (H : Heap) (locs : List Loc) (ls : Array Slot) (l1 : Int64) (l3 : Int32), k31 S l1 l3 = some (r1, S1) → mG D cI cJ cZ ad A H0 H locs S → lv_has ls 4 [(0, .ref (ad 0)), (1, .long l1), (3, .int l3)] → W p l e { frames := 8, cells := 0, slots := 0, locals := 163 } s m args below meth c H locs 0 0 Q (F0 m 31 ls [])) : ∀ (S : MS) (H : Heap) (locs : List Loc) (ls : Array Slot) (l1 : Int64) (l3 : Int32), fr_writeMap_b76 k31 S l1 l3 = some (r1, S1) → mG D cI cJ cZ ad A H0 H locs S → lv_has ls 4 [(0, .ref (ad 0)), (1, .long l1), (3, .int l3)] → W p l e { frames := 8, cells := 0, slots := 0, locals := 163 } s m args below meth c H locs 0 0 Q (F0 m 76 ls []) := by
  have hx := E.1
  have hb := E.2.1
  have hts := E.2.2.1
  have hown := E.2.2.2.1
  have hK := E.2.2.2.2.1
  intro S H locs ls l1 l3 h G hl
  unfold fr_writeMap_b76 at h
  refine lv_aload_n hx hb dX12_writeMap_76 rfl (lv_at hl 0 rfl) ?_
  refine m_get E G 27 (v := .ref (ad 27)) (by decide) (.tail _ qM_23) rfl dX12_writeMap_77 rfl ?_
  refine lv_aload_n hx hb dX12_writeMap_80 rfl (lv_at hl 0 rfl) ?_
  refine m_get E G 28 (v := .int (S.1 28)) (by decide) (.tail _ qM_469) rfl dX12_writeMap_81 rfl ?_
  refine lv_topi (fun v2 ev2 => ?_)
  have h := elet_at ev2 h
  clear ev2
  refine lv_bipush (v := 48) hx hb dX12_writeMap_84 (by decide) ?_
  refine lv_lload_n hx hb dX12_writeMap_86 rfl (lv_at hl 1 rfl) ?_
  refine lv_lconst (v := 0) hx hb dX12_writeMap_87 (by decide) ?_
  refine W.lcmp hx hb dX12_writeMap_88 ?_
  refine lv_topi (fun v3 ev3 => ?_)
  have h := elet_at ev3 h
  clear ev3
  refine lv_if_ne (tgt := 96) hx hb dX12_writeMap_89 (by decide) (fun c4 => ?_) (fun c4 => ?_)
  · have h := oif_neg c4 h
    refine lv_ldc2 (v := 9) hx hb hown (hts (.constantLong RX12 442 (9)) (.tail _ qM_470)) dX12_writeMap_96 ?_
    refine lv_aload_n hx hb dX12_writeMap_99 rfl (lv_at hl 0 rfl) ?_
    refine m_get E G 25 (v := .ref (ad 25)) (by decide) (.tail _ qM_21) rfl dX12_writeMap_100 rfl ?_
    refine lv_iload_n hx hb dX12_writeMap_103 rfl (lv_at hl 2 rfl) ?_
    obtain ⟨g5, h⟩ := oif_some h
    refine m_lald E G 25 13 (n := 144) (k := l3.toNatClampNeg) rfl (inb_k g5).1 (inb_k g5).2 (by decide) dX12_writeMap_104 ?_
    refine lv_topl (fun v6 ev6 => ?_)
    have h := elet_at ev6 h
    clear ev6
    refine lv_lmul hx hb dX12_writeMap_105 ?_
    refine lv_topl (fun v7 ev7 => ?_)
    have h := elet_at ev7 h
    clear ev7
    refine lv_lload_n hx hb dX12_writeMap_106 rfl (lv_at hl 1 rfl) ?_
    obtain ⟨g8, h⟩ := oif_some h
    refine lv_ldiv hx hb dX12_writeMap_107 g8 ?_
    refine lv_topl (fun v9 ev9 => ?_)
    have h := elet_at ev9 h
    clear ev9
    refine lv_l2i (v := v9.toInt32) hx hb dX12_writeMap_108 rfl ?_
    refine lv_topi (fun v10 ev10 => ?_)
    have h := elet_at ev10 h
    clear ev10
    have hl := lv_sub hl [0, 1, 2] rfl
    exact tr_writeMap_b109 E hA hR hml kr9 kr131 hk31 _ _ _ _ _ _ _ _ _ h G hl
  · have h := oif_pos c4 h
    refine lv_iconst (v := 0) hx hb dX12_writeMap_92 (by decide) ?_
    refine lv_goto (tgt := 109) hx hb dX12_writeMap_93 (by decide) ?_
    have hl := lv_sub hl [0, 1, 2] rfl
    exact tr_writeMap_b109 E hA hR hml kr9 kr131 hk31 _ _ _ _ _ _ _ _ _ h G hl
def fr_writeMap_b31  : Nat → MS → Int64 → Int32 → Option (Int32 × MS)
  | 0, _, _, _ => none
  | n + 1, S, l1, l3 => obind2 (fr_cellCount S) fun r5 S2 => if r5 ≤ l3 then (elet (S2.1 28) fun v7 => some (v7, S2)) else (if l3 ≤ 0 then (fr_writeMap_b76 (fr_writeMap_b31 n) S2 l1 l3) else (elet (S2.2.1 10 9) fun v9 => oif (¬ v9 = 0) <| elet (l3 - l3 / v9 * v9) fun v11 => if v11 = 0 then (elet (S2.1 28) fun v13 => oif (inb v13 160 = true) <| elet (mf S2 27 (upd (S2.2.1 27) v13.toNatClampNeg 59)) fun S15 => elet (S15.1 28) fun v16 => elet (v16 + 1) fun v17 => elet (mi S15 28 v17) fun S18 => fr_writeMap_b76 (fr_writeMap_b31 n) S18 l1 l3) else (fr_writeMap_b76 (fr_writeMap_b31 n) S2 l1 l3)))
set_option maxHeartbeats 4000000 in
set_option maxRecDepth 100000 in
theorem tr_writeMap_b31 {p : Program} {l : Launch} {e : Env} {s : State} {m : MethodId} {args : Array Value} {below : List Frame} {meth : Method} {c : Code} {Q : State → Prop} {D : va_G} {A : Nat → Prop} {H0 : Heap} {cI cJ cZ : ClassId} {ad : Nat → Nat} {r1 : Int32} {S1 : MS} (E : mE p c cX12_writeMap s m args (Cond.code yX12_writeMap cX12_writeMap 4 (some .int) :: wsM) D cI cJ cZ) (hA : ∀ q : Nat, H0.size ≤ q → A q) (hR : sR s) (hml : c.maxLocals = 4) (kr9 : ∀ (H : Heap) (locs : List Loc) (ls : Array Slot), mG D cI cJ cZ ad A H0 H locs S1 → W p l e { frames := 8, cells := 0, slots := 0, locals := 163 } s m args below meth c H locs 0 0 Q (F0 m 9 ls [.int r1])) (kr131 : ∀ (H : Heap) (locs : List Loc) (ls : Array Slot), mG D cI cJ cZ ad A H0 H locs S1 → W p l e { frames := 8, cells := 0, slots := 0, locals := 163 } s m args below meth c H locs 0 0 Q (F0 m 131 ls [.int r1])) : ∀ n : Nat, ∀ (S : MS) (H : Heap) (locs : List Loc) (ls : Array Slot) (l1 : Int64) (l3 : Int32), fr_writeMap_b31 n S l1 l3 = some (r1, S1) → mG D cI cJ cZ ad A H0 H locs S → lv_has ls 4 [(0, .ref (ad 0)), (1, .long l1), (3, .int l3)] → W p l e { frames := 8, cells := 0, slots := 0, locals := 163 } s m args below meth c H locs 0 0 Q (F0 m 31 ls []) := by
  have hx := E.1
  have hb := E.2.1
  have hts := E.2.2.1
  have hown := E.2.2.2.1
  have hK := E.2.2.2.2.1
  intro n
  induction n with
  | zero =>
    intro S H locs ls l1 l3 h
    have h : (none : Option (Int32 × MS)) = some (r1, S1) := h
    cases h
  | succ n ih =>
    intro S H locs ls l1 l3 h G hl
    unfold fr_writeMap_b31 at h
    refine lv_iload_n hx hb dX12_writeMap_31 rfl (lv_at hl 2 rfl) ?_
    refine lv_aload_n hx hb dX12_writeMap_32 rfl (lv_at hl 0 rfl) ?_
    obtain ⟨r5, S2, eS2, h⟩ := obind2_some h
    refine m_calli (As := []) (rest := [.int l3]) E G hA hR hml (tr_cellCount l D cI cJ cZ ad S eS2) (cwV 0 hts (gmV qM_204 qM_205 qM_206 qM_35 qM_207) rfl rfl rfl (by decide +kernel) ⟨Nat.le_of_ble_eq_true rfl, Nat.le_of_ble_eq_true rfl⟩) rfl hl.1 rfl (lv_room (Nat.le_of_ble_eq_true rfl)) dX12_writeMap_33 ⟨Nat.zero_le _, Nat.zero_le _⟩ (fun q3 S4 H locs hq G => ?_)
    obtain ⟨hq1, hq2⟩ := hq
    rw [hq2] at G
    refine lv_to hq1 ?_
    clear hq1 hq2 eS2
    refine lv_icmp_ge (tgt := 127) hx hb dX12_writeMap_36 (by decide) (fun c6 => ?_) (fun c6 => ?_)
    · have h := oif_pos c6 h
      refine lv_aload_n hx hb dX12_writeMap_127 rfl (lv_at hl 0 rfl) ?_
      refine m_get E G 28 (v := .int (S2.1 28)) (by decide) (.tail _ qM_469) rfl dX12_writeMap_128 rfl ?_
      refine lv_topi (fun v7 ev7 => ?_)
      have h := elet_at ev7 h
      clear ev7
      rw [(osome2 h).2] at G
      refine lv_to (osome2 h).1 ?_
      exact kr131 _ _ _ G
    · have h := oif_neg c6 h
      refine lv_iload_n hx hb dX12_writeMap_39 rfl (lv_at hl 2 rfl) ?_
      refine lv_if_le (tgt := 76) hx hb dX12_writeMap_40 (by decide) (fun c8 => ?_) (fun c8 => ?_)
      · have h := oif_pos c8 h
        have hl := lv_sub hl [0, 1, 2] rfl
        exact tr_writeMap_b76 E hA hR hml kr9 kr131 ih _ _ _ _ _ _ h G hl
      · have h := oif_neg c8 h
        refine lv_iload_n hx hb dX12_writeMap_43 rfl (lv_at hl 2 rfl) ?_
        refine lv_aload_n hx hb dX12_writeMap_44 rfl (lv_at hl 0 rfl) ?_
        refine m_get E G 10 (v := .ref (ad 10)) (by decide) (.tail _ qM_7) rfl dX12_writeMap_45 rfl ?_
        refine lv_bipush (v := 9) hx hb dX12_writeMap_48 (by decide) ?_
        refine m_iald E G 10 2 (n := 131) (k := 9) rfl rfl (by decide) (by decide) dX12_writeMap_50 ?_
        refine lv_topi (fun v9 ev9 => ?_)
        have h := elet_at ev9 h
        clear ev9
        obtain ⟨g10, h⟩ := oif_some h
        refine lv_irem hx hb dX12_writeMap_51 g10 ?_
        refine lv_topi (fun v11 ev11 => ?_)
        have h := elet_at ev11 h
        clear ev11
        refine lv_if_ne (tgt := 76) hx hb dX12_writeMap_52 (by decide) (fun c12 => ?_) (fun c12 => ?_)
        · have h := oif_neg c12 h
          have hl := lv_sub hl [0, 1, 2] rfl
          exact tr_writeMap_b76 E hA hR hml kr9 kr131 ih _ _ _ _ _ _ h G hl
        · have h := oif_pos c12 h
          refine lv_aload_n hx hb dX12_writeMap_55 rfl (lv_at hl 0 rfl) ?_
          refine m_get E G 27 (v := .ref (ad 27)) (by decide) (.tail _ qM_23) rfl dX12_writeMap_56 rfl ?_
          refine lv_aload_n hx hb dX12_writeMap_59 rfl (lv_at hl 0 rfl) ?_
          refine m_get E G 28 (v := .int (S2.1 28)) (by decide) (.tail _ qM_469) rfl dX12_writeMap_60 rfl ?_
          refine lv_topi (fun v13 ev13 => ?_)
          have h := elet_at ev13 h
          clear ev13
          refine lv_bipush (v := 59) hx hb dX12_writeMap_63 (by decide) ?_
          obtain ⟨g14, h⟩ := oif_some h
          refine m_iast E G 27 15 (k := v13.toNatClampNeg) (v := 59) rfl (fun _ => rfl) (inb_k g14).1 (inb_k g14).2 (by decide) dX12_writeMap_65 (fun H locs G => ?_)
          obtain ⟨S15, eS15, h⟩ := elet_some h
          rw [← eS15] at G
          clear eS15
          refine lv_aload_n hx hb dX12_writeMap_66 rfl (lv_at hl 0 rfl) ?_
          refine lv_dup hx hb dX12_writeMap_67 rfl ?_
          refine m_get E G 28 (v := .int (S15.1 28)) (by decide) (.tail _ qM_469) rfl dX12_writeMap_68 rfl ?_
          refine lv_topi (fun v16 ev16 => ?_)
          have h := elet_at ev16 h
          clear ev16
          refine lv_iconst (v := 1) hx hb dX12_writeMap_71 (by decide) ?_
          refine lv_iadd hx hb dX12_writeMap_72 ?_
          refine lv_topi (fun v17 ev17 => ?_)
          have h := elet_at ev17 h
          clear ev17
          refine m_put E G 28 (by decide) (.tail _ qM_469) (mw_i28 _ _ _ _ _ v17) dX12_writeMap_73 ⟨rfl, rfl, rfl⟩ rfl rfl (fun H locs G => ?_)
          obtain ⟨S18, eS18, h⟩ := elet_some h
          rw [← eS18] at G
          clear eS18
          have hl := lv_sub hl [0, 1, 2] rfl
          exact tr_writeMap_b76 E hA hR hml kr9 kr131 ih _ _ _ _ _ _ h G hl
def fr_writeMap (S : MS)  : Option (Int32 × MS) := obind2 (fr_mayAsk S 1) fun r5 S2 => if r5 = 0 then (some (0, S2)) else (obind2 (fr_bestIn_12 S2) fun r10 S7 => oif (inb r10 144 = true) <| elet (S7.2.2 25 r10.toNatClampNeg) fun v12 => elet (mi S7 28 0) fun S13 => fr_writeMap_b31 16384 S13 v12 0)
set_option maxHeartbeats 4000000 in
set_option maxRecDepth 100000 in
theorem tr_writeMap (l : Launch) (D : va_G) (cI cJ cZ : ClassId) (ad : Nat → Nat) (S : MS)  {r1 : Int32} {S1 : MS} (h : fr_writeMap S = some (r1, S1)) : mCi l yX12_writeMap (Cond.code yX12_writeMap cX12_writeMap 4 (some .int) :: wsM) 8 163 D cI cJ cZ ad S [] (fun r S9 => r = r1 ∧ S9 = S1) := by
  intro sz
  refine Met.ofW (cc := cX12_writeMap) (maxL := 4) (ret := (some .int)) (by decide) rfl ?_
  intro p e s m args below meth c s₁ B hml hv
  obtain ⟨rfl, hsz, hP, hK, hD0, hR⟩ := hv
  have hx := B.exec
  have hb := B.bytes
  have hr := B.returns
  have hts := atoms_spec (ws := (Cond.code yX12_writeMap cX12_writeMap 4 (some .int) :: wsM)) B.pre
  have hown : s.vm.findClass RX12 = some m.cls := findClass_of_methodNamed B.named
  have hlocks := B.notSynchronized
  subst hsz
  have hD := hD0.self (sz := s.heap.size)
  generalize hAe : va_A (MW cI cJ cZ ad S) s.heap.size = A at hD ⊢
  have hA : ∀ q : Nat, s.heap.size ≤ q → A q := fun q h => by rw [← hAe]; exact Or.inr h
  have G : mG D cI cJ cZ ad A s.heap s.heap [] S := ⟨hP, hD, va_S.rf⟩
  have E : mE p c cX12_writeMap s m ([.ref (ad 0)] : List Value).toArray (Cond.code yX12_writeMap cX12_writeMap 4 (some .int) :: wsM) D cI cJ cZ := ⟨hx, hb, hts, hown, hK, fun w h => .tail _ (iM_x h)⟩
  have hl := lv_entry ([.ref (ad 0)]) (n := 4) (Nat.le_of_ble_eq_true rfl)
  rw [lg_entry_eq]
  generalize (lg_sl ([.ref (ad 0)]) ++ List.replicate (4 - (lg_sl ([.ref (ad 0)])).length) Slot.unset).toArray = ls at hl ⊢
  have hl : lv_has ls 4 [(0, .ref (ad 0))] := hl
  unfold fr_writeMap at h
  refine lv_aload_n hx hb dX12_writeMap_0 rfl (lv_at hl 0 rfl) ?_
  refine lv_iconst (v := 1) hx hb dX12_writeMap_1 (by decide) ?_
  obtain ⟨r5, S2, eS2, h⟩ := obind2_some h
  refine m_calli (As := [.int 1]) (rest := []) E G hA hR hml (tr_mayAsk l D cI cJ cZ ad S 1 eS2) (cwV 1 hts (gmV qM_319 qM_320 qM_321 qM_35 qM_304) rfl rfl rfl (by decide +kernel) ⟨Nat.le_of_ble_eq_true rfl, Nat.le_of_ble_eq_true rfl⟩) rfl hl.1 rfl (lv_room (Nat.le_of_ble_eq_true rfl)) dX12_writeMap_2 ⟨Nat.zero_le _, Nat.zero_le _⟩ (fun q3 S4 H locs hq G => ?_)
  obtain ⟨hq1, hq2⟩ := hq
  rw [hq2] at G
  refine lv_to hq1 ?_
  clear hq1 hq2 eS2
  refine lv_if_ne (tgt := 10) hx hb dX12_writeMap_5 (by decide) (fun c6 => ?_) (fun c6 => ?_)
  · have h := oif_neg c6 h
    refine lv_aload_n hx hb dX12_writeMap_10 rfl (lv_at hl 0 rfl) ?_
    refine m_get E G 25 (v := .ref (ad 25)) (by decide) (.tail _ qM_21) rfl dX12_writeMap_11 rfl ?_
    refine lv_aload_n hx hb dX12_writeMap_14 rfl (lv_at hl 0 rfl) ?_
    refine lv_aload_n hx hb dX12_writeMap_15 rfl (lv_at hl 0 rfl) ?_
    refine m_get E G 12 (v := .ref (ad 12)) (by decide) (.tail _ qM_9) rfl dX12_writeMap_16 rfl ?_
    obtain ⟨r10, S7, eS7, h⟩ := obind2_some h
    refine m_calli (As := [.ref (ad 12)]) (rest := [.ref (ad 25)]) E G hA hR hml (tr_bestIn_12 l D cI cJ cZ ad S2 eS7) (cwV 1 hts (gmV qM_360 qM_361 qM_362 qM_35 qM_300) rfl rfl rfl (by decide +kernel) ⟨Nat.le_of_ble_eq_true rfl, Nat.le_of_ble_eq_true rfl⟩) rfl hl.1 rfl (lv_room (Nat.le_of_ble_eq_true rfl)) dX12_writeMap_19 ⟨Nat.zero_le _, Nat.zero_le _⟩ (fun q8 S9 H locs hq G => ?_)
    obtain ⟨hq1, hq2⟩ := hq
    rw [hq2] at G
    refine lv_to hq1 ?_
    clear hq1 hq2 eS7
    obtain ⟨g11, h⟩ := oif_some h
    refine m_lald E G 25 13 (n := 144) (k := r10.toNatClampNeg) rfl (inb_k g11).1 (inb_k g11).2 (by decide) dX12_writeMap_22 ?_
    refine lv_topl (fun v12 ev12 => ?_)
    have h := elet_at ev12 h
    clear ev12
    refine lv_lstore_n (lv' := [(1, .long v12), (0, .ref (ad 0))]) hx hb dX12_writeMap_23 rfl hl (by decide) rfl (fun ls hl => ?_)
    refine lv_aload_n hx hb dX12_writeMap_24 rfl (lv_at hl 1 rfl) ?_
    refine lv_iconst (v := 0) hx hb dX12_writeMap_25 (by decide) ?_
    refine m_put E G 28 (by decide) (.tail _ qM_469) (mw_i28 _ _ _ _ _ 0) dX12_writeMap_26 ⟨rfl, rfl, rfl⟩ rfl rfl (fun H locs G => ?_)
    obtain ⟨S13, eS13, h⟩ := elet_some h
    rw [← eS13] at G
    clear eS13
    refine lv_iconst (v := 0) hx hb dX12_writeMap_29 (by decide) ?_
    refine lv_istore_n (lv' := [(3, .int 0), (1, .long v12), (0, .ref (ad 0))]) hx hb dX12_writeMap_30 rfl hl (by decide) rfl (fun ls hl => ?_)
    have hl := lv_sub hl [2, 1, 0] rfl
    exact tr_writeMap_b31 E hA hR hml (fun H locs ls G => W.iret (v := r1) hx hb hr (fun t ht hW => ⟨⟨r1, S1, rfl, ⟨rfl, rfl⟩, ⟨by rw [ht]; exact G.1, va_K.moved hW.alike hK, G.2.1⟩⟩, G.2.2.F ht⟩) G.2.2.2.2 dX12_writeMap_9) (fun H locs ls G => W.iret (v := r1) hx hb hr (fun t ht hW => ⟨⟨r1, S1, rfl, ⟨rfl, rfl⟩, ⟨by rw [ht]; exact G.1, va_K.moved hW.alike hK, G.2.1⟩⟩, G.2.2.F ht⟩) G.2.2.2.2 dX12_writeMap_131) _ _ _ _ _ _ _ h G hl
  · have h := oif_pos c6 h
    refine lv_iconst (v := 0) hx hb dX12_writeMap_8 (by decide) ?_
    exact W.iret (v := 0) hx hb hr (fun t ht hW => ⟨⟨0, S2, rfl, osome2 h, ⟨by rw [ht]; exact G.1, va_K.moved hW.alike hK, G.2.1⟩⟩, G.2.2.F ht⟩) G.2.2.2.2 dX12_writeMap_9
def fr_mapByte_b40  (S : MS) (s0 : Int32) : Option (Int32 × MS) := some (s0, S)
set_option maxHeartbeats 4000000 in
set_option maxRecDepth 100000 in
theorem tr_mapByte_b40 {p : Program} {l : Launch} {e : Env} {s : State} {m : MethodId} {args : Array Value} {below : List Frame} {meth : Method} {c : Code} {Q : State → Prop} {D : va_G} {A : Nat → Prop} {H0 : Heap} {cI cJ cZ : ClassId} {ad : Nat → Nat} {r1 : Int32} {S1 : MS} (E : mE p c cX12_mapByte s m args (Cond.code yX12_mapByte cX12_mapByte 2 (some .int) :: wsM) D cI cJ cZ) (hA : ∀ q : Nat, H0.size ≤ q → A q) (hR : sR s) (hml : c.maxLocals = 2) (kr40 : ∀ (H : Heap) (locs : List Loc) (ls : Array Slot), mG D cI cJ cZ ad A H0 H locs S1 → W p l e { frames := 2, cells := 0, slots := 0, locals := 22 } s m args below meth c H locs 0 0 Q (F0 m 40 ls [.int r1])) : ∀ (S : MS) (H : Heap) (locs : List Loc) (ls : Array Slot) (s0 : Int32), fr_mapByte_b40 S s0 = some (r1, S1) → mG D cI cJ cZ ad A H0 H locs S → lv_has ls 2 [] → W p l e { frames := 2, cells := 0, slots := 0, locals := 22 } s m args below meth c H locs 0 0 Q (F0 m 40 ls [.int s0]) := by
  have hx := E.1
  have hb := E.2.1
  have hts := E.2.2.1
  have hown := E.2.2.2.1
  have hK := E.2.2.2.2.1
  intro S H locs ls s0 h G hl
  unfold fr_mapByte_b40 at h
  rw [(osome2 h).2] at G
  refine lv_to (osome2 h).1 ?_
  exact kr40 _ _ _ G
def fr_mapByte_b20  (S : MS) (s0 : Int32) (l1 : Int32) : Option (Int32 × MS) := elet (mi S 0 s0) fun S2 => elet (S2.1 0) fun v3 => if v3 = 0 then (oif (inb l1 160 = true) <| elet (S2.2.1 27 l1.toNatClampNeg) fun v6 => fr_mapByte_b40 S2 v6) else (fr_mapByte_b40 S2 0)
set_option maxHeartbeats 4000000 in
set_option maxRecDepth 100000 in
theorem tr_mapByte_b20 {p : Program} {l : Launch} {e : Env} {s : State} {m : MethodId} {args : Array Value} {below : List Frame} {meth : Method} {c : Code} {Q : State → Prop} {D : va_G} {A : Nat → Prop} {H0 : Heap} {cI cJ cZ : ClassId} {ad : Nat → Nat} {r1 : Int32} {S1 : MS} (E : mE p c cX12_mapByte s m args (Cond.code yX12_mapByte cX12_mapByte 2 (some .int) :: wsM) D cI cJ cZ) (hA : ∀ q : Nat, H0.size ≤ q → A q) (hR : sR s) (hml : c.maxLocals = 2) (kr40 : ∀ (H : Heap) (locs : List Loc) (ls : Array Slot), mG D cI cJ cZ ad A H0 H locs S1 → W p l e { frames := 2, cells := 0, slots := 0, locals := 22 } s m args below meth c H locs 0 0 Q (F0 m 40 ls [.int r1])) : ∀ (S : MS) (H : Heap) (locs : List Loc) (ls : Array Slot) (s0 : Int32) (l1 : Int32), fr_mapByte_b20 S s0 l1 = some (r1, S1) → mG D cI cJ cZ ad A H0 H locs S → lv_has ls 2 [(0, .ref (ad 0)), (1, .int l1)] → W p l e { frames := 2, cells := 0, slots := 0, locals := 22 } s m args below meth c H locs 0 0 Q (F0 m 20 ls [.int s0, .ref (ad 0)]) := by
  have hx := E.1
  have hb := E.2.1
  have hts := E.2.2.1
  have hown := E.2.2.2.1
  have hK := E.2.2.2.2.1
  intro S H locs ls s0 l1 h G hl
  unfold fr_mapByte_b20 at h
  refine m_put E G 0 (by decide) (.tail _ qM_26) (mw_i0 _ _ _ _ _ s0) dX12_mapByte_20 ⟨rfl, rfl, rfl⟩ rfl rfl (fun H locs G => ?_)
  obtain ⟨S2, eS2, h⟩ := elet_some h
  rw [← eS2] at G
  clear eS2
  refine lv_aload_n hx hb dX12_mapByte_23 rfl (lv_at hl 0 rfl) ?_
  refine m_get E G 0 (v := .int (S2.1 0)) (by decide) (.tail _ qM_26) rfl dX12_mapByte_24 rfl ?_
  refine lv_topi (fun v3 ev3 => ?_)
  have h := elet_at ev3 h
  clear ev3
  refine lv_if_ne (tgt := 39) hx hb dX12_mapByte_27 (by decide) (fun c4 => ?_) (fun c4 => ?_)
  · have h := oif_neg c4 h
    refine lv_iconst (v := 0) hx hb dX12_mapByte_39 (by decide) ?_
    have hl := lv_sub hl [] rfl
    exact tr_mapByte_b40 E hA hR hml kr40 _ _ _ _ _ h G hl
  · have h := oif_pos c4 h
    refine lv_aload_n hx hb dX12_mapByte_30 rfl (lv_at hl 0 rfl) ?_
    refine m_get E G 27 (v := .ref (ad 27)) (by decide) (.tail _ qM_23) rfl dX12_mapByte_31 rfl ?_
    refine lv_iload_n hx hb dX12_mapByte_34 rfl (lv_at hl 1 rfl) ?_
    obtain ⟨g5, h⟩ := oif_some h
    refine m_iald E G 27 15 (n := 160) (k := l1.toNatClampNeg) rfl (inb_k g5).1 (inb_k g5).2 (by decide) dX12_mapByte_35 ?_
    refine lv_topi (fun v6 ev6 => ?_)
    have h := elet_at ev6 h
    clear ev6
    refine lv_goto (tgt := 40) hx hb dX12_mapByte_36 (by decide) ?_
    have hl := lv_sub hl [] rfl
    exact tr_mapByte_b40 E hA hR hml kr40 _ _ _ _ _ h G hl
def fr_mapByte (S : MS) (a0 : Int32) : Option (Int32 × MS) := elet (S.1 28) fun v2 => elet (v2 - 1) fun v3 => obind (fr_in a0 0 v3) fun r4 => if r4 = 0 then (fr_mapByte_b20 S 1 a0) else (fr_mapByte_b20 S 0 a0)
set_option maxHeartbeats 4000000 in
set_option maxRecDepth 100000 in
theorem tr_mapByte (l : Launch) (D : va_G) (cI cJ cZ : ClassId) (ad : Nat → Nat) (S : MS) (a0 : Int32) {r1 : Int32} {S1 : MS} (h : fr_mapByte S a0 = some (r1, S1)) : mCi l yX12_mapByte (Cond.code yX12_mapByte cX12_mapByte 2 (some .int) :: wsM) 2 22 D cI cJ cZ ad S [.int a0] (fun r S9 => r = r1 ∧ S9 = S1) := by
  intro sz
  refine Met.ofW (cc := cX12_mapByte) (maxL := 2) (ret := (some .int)) (by decide) rfl ?_
  intro p e s m args below meth c s₁ B hml hv
  obtain ⟨rfl, hsz, hP, hK, hD0, hR⟩ := hv
  have hx := B.exec
  have hb := B.bytes
  have hr := B.returns
  have hts := atoms_spec (ws := (Cond.code yX12_mapByte cX12_mapByte 2 (some .int) :: wsM)) B.pre
  have hown : s.vm.findClass RX12 = some m.cls := findClass_of_methodNamed B.named
  have hlocks := B.notSynchronized
  subst hsz
  have hD := hD0.self (sz := s.heap.size)
  generalize hAe : va_A (MW cI cJ cZ ad S) s.heap.size = A at hD ⊢
  have hA : ∀ q : Nat, s.heap.size ≤ q → A q := fun q h => by rw [← hAe]; exact Or.inr h
  have G : mG D cI cJ cZ ad A s.heap s.heap [] S := ⟨hP, hD, va_S.rf⟩
  have E : mE p c cX12_mapByte s m ([.ref (ad 0), .int a0] : List Value).toArray (Cond.code yX12_mapByte cX12_mapByte 2 (some .int) :: wsM) D cI cJ cZ := ⟨hx, hb, hts, hown, hK, fun w h => .tail _ (iM_x h)⟩
  have hl := lv_entry ([.ref (ad 0), .int a0]) (n := 2) (Nat.le_of_ble_eq_true rfl)
  rw [lg_entry_eq]
  generalize (lg_sl ([.ref (ad 0), .int a0]) ++ List.replicate (2 - (lg_sl ([.ref (ad 0), .int a0])).length) Slot.unset).toArray = ls at hl ⊢
  have hl : lv_has ls 2 [(0, .ref (ad 0)), (1, .int a0)] := hl
  unfold fr_mapByte at h
  refine lv_aload_n hx hb dX12_mapByte_0 rfl (lv_at hl 0 rfl) ?_
  refine lv_iload_n hx hb dX12_mapByte_1 rfl (lv_at hl 1 rfl) ?_
  refine lv_iconst (v := 0) hx hb dX12_mapByte_2 (by decide) ?_
  refine lv_aload_n hx hb dX12_mapByte_3 rfl (lv_at hl 0 rfl) ?_
  refine m_get E G 28 (v := .int (S.1 28)) (by decide) (.tail _ qM_469) rfl dX12_mapByte_4 rfl ?_
  refine lv_topi (fun v2 ev2 => ?_)
  have h := elet_at ev2 h
  clear ev2
  refine lv_iconst (v := 1) hx hb dX12_mapByte_7 (by decide) ?_
  refine lv_isub hx hb dX12_mapByte_8 ?_
  refine lv_topi (fun v3 ev3 => ?_)
  have h := elet_at ev3 h
  clear ev3
  obtain ⟨r4, er4, h⟩ := obind_some h
  refine m_stat (As := [.int a0, .int 0, .int v3]) (rest := [.ref (ad 0)]) ⟨hx, hb, hml, hown, hts⟩ (tr_in l a0 0 v3 er4) (cwS 3 hts (gmS qM_52 qM_53 qM_35 qM_27) rfl rfl rfl (by decide +kernel) ⟨Nat.le_of_ble_eq_true rfl, Nat.le_of_ble_eq_true rfl⟩) rfl hl.1 rfl (lv_room (Nat.le_of_ble_eq_true rfl)) dX12_mapByte_9 ⟨Nat.zero_le _, Nat.zero_le _⟩ (fun q5 hq => ?_)
  refine lv_to hq ?_
  clear hq er4
  refine lv_if_eq (tgt := 19) hx hb dX12_mapByte_12 (by decide) (fun c6 => ?_) (fun c6 => ?_)
  · have h := oif_pos c6 h
    refine lv_iconst (v := 1) hx hb dX12_mapByte_19 (by decide) ?_
    have hl := lv_sub hl [0, 1] rfl
    exact tr_mapByte_b20 E hA hR hml (fun H locs ls G => W.iret (v := r1) hx hb hr (fun t ht hW => ⟨⟨r1, S1, rfl, ⟨rfl, rfl⟩, ⟨by rw [ht]; exact G.1, va_K.moved hW.alike hK, G.2.1⟩⟩, G.2.2.F ht⟩) G.2.2.2.2 dX12_mapByte_40) _ _ _ _ _ _ h G hl
  · have h := oif_neg c6 h
    refine lv_iconst (v := 0) hx hb dX12_mapByte_15 (by decide) ?_
    refine lv_goto (tgt := 20) hx hb dX12_mapByte_16 (by decide) ?_
    have hl := lv_sub hl [0, 1] rfl
    exact tr_mapByte_b20 E hA hR hml (fun H locs ls G => W.iret (v := r1) hx hb hr (fun t ht hW => ⟨⟨r1, S1, rfl, ⟨rfl, rfl⟩, ⟨by rw [ht]; exact G.1, va_K.moved hW.alike hK, G.2.1⟩⟩, G.2.2.F ht⟩) G.2.2.2.2 dX12_mapByte_40) _ _ _ _ _ _ h G hl
def fr_copy_12_14_b3  : Nat → MS → Int32 → Int32 → Int32 → Option (MS)
  | 0, _, _, _, _ => none
  | n + 1, S, l1, l3, l4 => if 2455 ≤ l4 then (some S) else (elet (l3 + l4) fun v3 => elet (l1 + l4) fun v4 => oif (inb v4 2455 = true) <| elet (S.2.1 12 v4.toNatClampNeg) fun v6 => oif (inb v3 2455 = true) <| elet (mf S 14 (upd (S.2.1 14) v3.toNatClampNeg v6)) fun S8 => elet (l4 + Int32.ofInt (1)) fun v9 => fr_copy_12_14_b3 n S8 l1 l3 v9)
set_option maxHeartbeats 4000000 in
set_option maxRecDepth 100000 in
theorem tr_copy_12_14_b3 {p : Program} {l : Launch} {e : Env} {s : State} {m : MethodId} {args : Array Value} {below : List Frame} {meth : Method} {c : Code} {Q : State → Prop} {D : va_G} {A : Nat → Prop} {H0 : Heap} {cI cJ cZ : ClassId} {ad : Nat → Nat} {S1 : MS} (E : mE p c cX12_copy s m args (Cond.code yX12_copy cX12_copy 5 none :: wsM) D cI cJ cZ) (hA : ∀ q : Nat, H0.size ≤ q → A q) (hR : sR s) (hml : c.maxLocals = 5) (kr29 : ∀ (H : Heap) (locs : List Loc) (ls : Array Slot), mG D cI cJ cZ ad A H0 H locs S1 → W p l e { frames := 1, cells := 0, slots := 0, locals := 0 } s m args below meth c H locs 0 0 Q (F0 m 29 ls [])) : ∀ n : Nat, ∀ (S : MS) (H : Heap) (locs : List Loc) (ls : Array Slot) (l1 : Int32) (l3 : Int32) (l4 : Int32), fr_copy_12_14_b3 n S l1 l3 l4 = some S1 → mG D cI cJ cZ ad A H0 H locs S → lv_has ls 5 [(0, .ref (ad 12)), (1, .int l1), (2, .ref (ad 14)), (3, .int l3), (4, .int l4)] → W p l e { frames := 1, cells := 0, slots := 0, locals := 0 } s m args below meth c H locs 0 0 Q (F0 m 3 ls []) := by
  have hx := E.1
  have hb := E.2.1
  have hts := E.2.2.1
  have hown := E.2.2.2.1
  have hK := E.2.2.2.2.1
  intro n
  induction n with
  | zero =>
    intro S H locs ls l1 l3 l4 h
    have h : (none : Option (MS)) = some S1 := h
    cases h
  | succ n ih =>
    intro S H locs ls l1 l3 l4 h G hl
    unfold fr_copy_12_14_b3 at h
    refine lv_iload hx hb dX12_copy_3 (lv_at hl 4 rfl) ?_
    refine lv_sipush (v := 2455) hx hb dX12_copy_5 (by decide) ?_
    refine lv_icmp_ge (tgt := 29) hx hb dX12_copy_8 (by decide) (fun c2 => ?_) (fun c2 => ?_)
    · have h := oif_pos c2 h
      rw [osome1 h] at G
      exact kr29 _ _ _ G
    · have h := oif_neg c2 h
      refine lv_aload_n hx hb dX12_copy_11 rfl (lv_at hl 2 rfl) ?_
      refine lv_iload_n hx hb dX12_copy_12 rfl (lv_at hl 3 rfl) ?_
      refine lv_iload hx hb dX12_copy_13 (lv_at hl 4 rfl) ?_
      refine lv_iadd hx hb dX12_copy_15 ?_
      refine lv_topi (fun v3 ev3 => ?_)
      have h := elet_at ev3 h
      clear ev3
      refine lv_aload_n hx hb dX12_copy_16 rfl (lv_at hl 0 rfl) ?_
      refine lv_iload_n hx hb dX12_copy_17 rfl (lv_at hl 1 rfl) ?_
      refine lv_iload hx hb dX12_copy_18 (lv_at hl 4 rfl) ?_
      refine lv_iadd hx hb dX12_copy_20 ?_
      refine lv_topi (fun v4 ev4 => ?_)
      have h := elet_at ev4 h
      clear ev4
      obtain ⟨g5, h⟩ := oif_some h
      refine m_iald E G 12 4 (n := 2455) (k := v4.toNatClampNeg) rfl (inb_k g5).1 (inb_k g5).2 (by decide) dX12_copy_21 ?_
      refine lv_topi (fun v6 ev6 => ?_)
      have h := elet_at ev6 h
      clear ev6
      obtain ⟨g7, h⟩ := oif_some h
      refine m_iast E G 14 6 (k := v3.toNatClampNeg) (v := v6) rfl (fun _ => rfl) (inb_k g7).1 (inb_k g7).2 (by decide) dX12_copy_22 (fun H locs G => ?_)
      obtain ⟨S8, eS8, h⟩ := elet_some h
      rw [← eS8] at G
      clear eS8
      obtain ⟨v9, ev9, h⟩ := elet_some h
      refine lv_iinc (v := v9) (lv' := [(4, .int v9), (0, .ref (ad 12)), (1, .int l1), (2, .ref (ad 14)), (3, .int l3)]) hx hb dX12_copy_23 hl (k := 4) rfl ev9.symm (by decide) rfl (fun ls hl => ?_)
      refine lv_goto (tgt := 3) hx hb dX12_copy_26 (by decide) ?_
      have hl := lv_sub hl [1, 2, 3, 4, 0] rfl
      exact ih _ _ _ _ _ _ _ h G hl
def fr_copy_12_14 (S : MS) (a1 : Int32) (a3 : Int32) : Option (MS) := fr_copy_12_14_b3 16384 S a1 a3 0
set_option maxHeartbeats 4000000 in
set_option maxRecDepth 100000 in
theorem tr_copy_12_14 (l : Launch) (D : va_G) (cI cJ cZ : ClassId) (ad : Nat → Nat) (S : MS) (a1 : Int32) (a3 : Int32) {S1 : MS} (h : fr_copy_12_14 S a1 a3 = some S1) : mCs l yX12_copy (Cond.code yX12_copy cX12_copy 5 none :: wsM) 1 0 D cI cJ cZ ad S [.ref (ad 12), .int a1, .ref (ad 14), .int a3] (fun S9 => S9 = S1) := by
  intro sz
  refine Met.ofW (cc := cX12_copy) (maxL := 5) (ret := none) (by decide) rfl ?_
  intro p e s m args below meth c s₁ B hml hv
  obtain ⟨rfl, hsz, hP, hK, hD0, hR⟩ := hv
  have hx := B.exec
  have hb := B.bytes
  have hr := B.returns
  have hts := atoms_spec (ws := (Cond.code yX12_copy cX12_copy 5 none :: wsM)) B.pre
  have hown : s.vm.findClass RX12 = some m.cls := findClass_of_methodNamed B.named
  have hlocks := B.notSynchronized
  subst hsz
  have hD := hD0.self (sz := s.heap.size)
  generalize hAe : va_A (MW cI cJ cZ ad S) s.heap.size = A at hD ⊢
  have hA : ∀ q : Nat, s.heap.size ≤ q → A q := fun q h => by rw [← hAe]; exact Or.inr h
  have G : mG D cI cJ cZ ad A s.heap s.heap [] S := ⟨hP, hD, va_S.rf⟩
  have E : mE p c cX12_copy s m ([.ref (ad 12), .int a1, .ref (ad 14), .int a3] : List Value).toArray (Cond.code yX12_copy cX12_copy 5 none :: wsM) D cI cJ cZ := ⟨hx, hb, hts, hown, hK, fun w h => .tail _ (iM_x h)⟩
  have hl := lv_entry ([.ref (ad 12), .int a1, .ref (ad 14), .int a3]) (n := 5) (Nat.le_of_ble_eq_true rfl)
  rw [lg_entry_eq]
  generalize (lg_sl ([.ref (ad 12), .int a1, .ref (ad 14), .int a3]) ++ List.replicate (5 - (lg_sl ([.ref (ad 12), .int a1, .ref (ad 14), .int a3])).length) Slot.unset).toArray = ls at hl ⊢
  have hl : lv_has ls 5 [(0, .ref (ad 12)), (1, .int a1), (2, .ref (ad 14)), (3, .int a3)] := hl
  unfold fr_copy_12_14 at h
  refine lv_iconst (v := 0) hx hb dX12_copy_0 (by decide) ?_
  refine lv_istore (lv' := [(4, .int 0), (0, .ref (ad 12)), (1, .int a1), (2, .ref (ad 14)), (3, .int a3)]) hx hb dX12_copy_1 hl (by decide) rfl (fun ls hl => ?_)
  have hl := lv_sub hl [1, 2, 3, 4, 0] rfl
  exact tr_copy_12_14_b3 E hA hR hml (fun H locs ls G => W.vret hx hb hr (fun t ht hW => ⟨⟨S1, rfl, rfl, ⟨by rw [ht]; exact G.1, va_K.moved hW.alike hK, G.2.1⟩⟩, G.2.2.F ht⟩) G.2.2.2.2 dX12_copy_29) _ _ _ _ _ _ _ _ h G hl
def fr_sourcePlace_14_b45  (S : MS) (s0 : Int32) : Option (Int32 × MS) := some (s0, S)
set_option maxHeartbeats 4000000 in
set_option maxRecDepth 100000 in
theorem tr_sourcePlace_14_b45 {p : Program} {l : Launch} {e : Env} {s : State} {m : MethodId} {args : Array Value} {below : List Frame} {meth : Method} {c : Code} {Q : State → Prop} {D : va_G} {A : Nat → Prop} {H0 : Heap} {cI cJ cZ : ClassId} {ad : Nat → Nat} {r1 : Int32} {S1 : MS} (E : mE p c cX12_sourcePlace s m args (Cond.code yX12_sourcePlace cX12_sourcePlace 5 (some .int) :: wsM) D cI cJ cZ) (hA : ∀ q : Nat, H0.size ≤ q → A q) (hR : sR s) (hml : c.maxLocals = 5) (kr45 : ∀ (H : Heap) (locs : List Loc) (ls : Array Slot), mG D cI cJ cZ ad A H0 H locs S1 → W p l e { frames := 1, cells := 0, slots := 0, locals := 0 } s m args below meth c H locs 0 0 Q (F0 m 45 ls [.int r1])) : ∀ (S : MS) (H : Heap) (locs : List Loc) (ls : Array Slot) (s0 : Int32), fr_sourcePlace_14_b45 S s0 = some (r1, S1) → mG D cI cJ cZ ad A H0 H locs S → lv_has ls 5 [] → W p l e { frames := 1, cells := 0, slots := 0, locals := 0 } s m args below meth c H locs 0 0 Q (F0 m 45 ls [.int s0]) := by
  have hx := E.1
  have hb := E.2.1
  have hts := E.2.2.1
  have hown := E.2.2.2.1
  have hK := E.2.2.2.2.1
  intro S H locs ls s0 h G hl
  unfold fr_sourcePlace_14_b45 at h
  rw [(osome2 h).2] at G
  refine lv_to (osome2 h).1 ?_
  exact kr45 _ _ _ G
def fr_sourcePlace_14 (S : MS) (a1 : Int32) (a2 : Int32) (a3 : Int32) : Option (Int32 × MS) := if a2 = 0 then (elet (31 + a1) fun v3 => oif (inb v3 2455 = true) <| elet (S.2.1 14 v3.toNatClampNeg) fun v5 => elet (43 + a1) fun v6 => oif (inb v6 2455 = true) <| elet (S.2.1 14 v6.toNatClampNeg) fun v8 => elet (v8 * a3) fun v9 => elet (v9 / 100) fun v10 => elet (v5 + v10) fun v11 => fr_sourcePlace_14_b45 S v11) else (elet (37 + a1) fun v12 => oif (inb v12 2455 = true) <| elet (S.2.1 14 v12.toNatClampNeg) fun v14 => elet (49 + a1) fun v15 => oif (inb v15 2455 = true) <| elet (S.2.1 14 v15.toNatClampNeg) fun v17 => elet (v17 * a3) fun v18 => elet (v18 / 100) fun v19 => elet (v14 + v19) fun v20 => fr_sourcePlace_14_b45 S v20)
set_option maxHeartbeats 4000000 in
set_option maxRecDepth 100000 in
theorem tr_sourcePlace_14 (l : Launch) (D : va_G) (cI cJ cZ : ClassId) (ad : Nat → Nat) (S : MS) (a1 : Int32) (a2 : Int32) (a3 : Int32) {r1 : Int32} {S1 : MS} (h : fr_sourcePlace_14 S a1 a2 a3 = some (r1, S1)) : mCi l yX12_sourcePlace (Cond.code yX12_sourcePlace cX12_sourcePlace 5 (some .int) :: wsM) 1 0 D cI cJ cZ ad S [.ref (ad 14), .int a1, .int a2, .int a3] (fun r S9 => r = r1 ∧ S9 = S1) := by
  intro sz
  refine Met.ofW (cc := cX12_sourcePlace) (maxL := 5) (ret := (some .int)) (by decide) rfl ?_
  intro p e s m args below meth c s₁ B hml hv
  obtain ⟨rfl, hsz, hP, hK, hD0, hR⟩ := hv
  have hx := B.exec
  have hb := B.bytes
  have hr := B.returns
  have hts := atoms_spec (ws := (Cond.code yX12_sourcePlace cX12_sourcePlace 5 (some .int) :: wsM)) B.pre
  have hown : s.vm.findClass RX12 = some m.cls := findClass_of_methodNamed B.named
  have hlocks := B.notSynchronized
  subst hsz
  have hD := hD0.self (sz := s.heap.size)
  generalize hAe : va_A (MW cI cJ cZ ad S) s.heap.size = A at hD ⊢
  have hA : ∀ q : Nat, s.heap.size ≤ q → A q := fun q h => by rw [← hAe]; exact Or.inr h
  have G : mG D cI cJ cZ ad A s.heap s.heap [] S := ⟨hP, hD, va_S.rf⟩
  have E : mE p c cX12_sourcePlace s m ([.ref (ad 0), .ref (ad 14), .int a1, .int a2, .int a3] : List Value).toArray (Cond.code yX12_sourcePlace cX12_sourcePlace 5 (some .int) :: wsM) D cI cJ cZ := ⟨hx, hb, hts, hown, hK, fun w h => .tail _ (iM_x h)⟩
  have hl := lv_entry ([.ref (ad 0), .ref (ad 14), .int a1, .int a2, .int a3]) (n := 5) (Nat.le_of_ble_eq_true rfl)
  rw [lg_entry_eq]
  generalize (lg_sl ([.ref (ad 0), .ref (ad 14), .int a1, .int a2, .int a3]) ++ List.replicate (5 - (lg_sl ([.ref (ad 0), .ref (ad 14), .int a1, .int a2, .int a3])).length) Slot.unset).toArray = ls at hl ⊢
  have hl : lv_has ls 5 [(0, .ref (ad 0)), (1, .ref (ad 14)), (2, .int a1), (3, .int a2), (4, .int a3)] := hl
  unfold fr_sourcePlace_14 at h
  refine lv_iload_n hx hb dX12_sourcePlace_0 rfl (lv_at hl 3 rfl) ?_
  refine lv_if_ne (tgt := 26) hx hb dX12_sourcePlace_1 (by decide) (fun c2 => ?_) (fun c2 => ?_)
  · have h := oif_neg c2 h
    refine lv_aload_n hx hb dX12_sourcePlace_26 rfl (lv_at hl 1 rfl) ?_
    refine lv_bipush (v := 37) hx hb dX12_sourcePlace_27 (by decide) ?_
    refine lv_iload_n hx hb dX12_sourcePlace_29 rfl (lv_at hl 2 rfl) ?_
    refine lv_iadd hx hb dX12_sourcePlace_30 ?_
    refine lv_topi (fun v12 ev12 => ?_)
    have h := elet_at ev12 h
    clear ev12
    obtain ⟨g13, h⟩ := oif_some h
    refine m_iald E G 14 6 (n := 2455) (k := v12.toNatClampNeg) rfl (inb_k g13).1 (inb_k g13).2 (by decide) dX12_sourcePlace_31 ?_
    refine lv_topi (fun v14 ev14 => ?_)
    have h := elet_at ev14 h
    clear ev14
    refine lv_aload_n hx hb dX12_sourcePlace_32 rfl (lv_at hl 1 rfl) ?_
    refine lv_bipush (v := 49) hx hb dX12_sourcePlace_33 (by decide) ?_
    refine lv_iload_n hx hb dX12_sourcePlace_35 rfl (lv_at hl 2 rfl) ?_
    refine lv_iadd hx hb dX12_sourcePlace_36 ?_
    refine lv_topi (fun v15 ev15 => ?_)
    have h := elet_at ev15 h
    clear ev15
    obtain ⟨g16, h⟩ := oif_some h
    refine m_iald E G 14 6 (n := 2455) (k := v15.toNatClampNeg) rfl (inb_k g16).1 (inb_k g16).2 (by decide) dX12_sourcePlace_37 ?_
    refine lv_topi (fun v17 ev17 => ?_)
    have h := elet_at ev17 h
    clear ev17
    refine lv_iload hx hb dX12_sourcePlace_38 (lv_at hl 4 rfl) ?_
    refine lv_imul hx hb dX12_sourcePlace_40 ?_
    refine lv_topi (fun v18 ev18 => ?_)
    have h := elet_at ev18 h
    clear ev18
    refine lv_bipush (v := 100) hx hb dX12_sourcePlace_41 (by decide) ?_
    refine lv_idiv hx hb dX12_sourcePlace_43 (by decide) ?_
    refine lv_topi (fun v19 ev19 => ?_)
    have h := elet_at ev19 h
    clear ev19
    refine lv_iadd hx hb dX12_sourcePlace_44 ?_
    refine lv_topi (fun v20 ev20 => ?_)
    have h := elet_at ev20 h
    clear ev20
    have hl := lv_sub hl [] rfl
    exact tr_sourcePlace_14_b45 E hA hR hml (fun H locs ls G => W.iret (v := r1) hx hb hr (fun t ht hW => ⟨⟨r1, S1, rfl, ⟨rfl, rfl⟩, ⟨by rw [ht]; exact G.1, va_K.moved hW.alike hK, G.2.1⟩⟩, G.2.2.F ht⟩) G.2.2.2.2 dX12_sourcePlace_45) _ _ _ _ _ h G hl
  · have h := oif_pos c2 h
    refine lv_aload_n hx hb dX12_sourcePlace_4 rfl (lv_at hl 1 rfl) ?_
    refine lv_bipush (v := 31) hx hb dX12_sourcePlace_5 (by decide) ?_
    refine lv_iload_n hx hb dX12_sourcePlace_7 rfl (lv_at hl 2 rfl) ?_
    refine lv_iadd hx hb dX12_sourcePlace_8 ?_
    refine lv_topi (fun v3 ev3 => ?_)
    have h := elet_at ev3 h
    clear ev3
    obtain ⟨g4, h⟩ := oif_some h
    refine m_iald E G 14 6 (n := 2455) (k := v3.toNatClampNeg) rfl (inb_k g4).1 (inb_k g4).2 (by decide) dX12_sourcePlace_9 ?_
    refine lv_topi (fun v5 ev5 => ?_)
    have h := elet_at ev5 h
    clear ev5
    refine lv_aload_n hx hb dX12_sourcePlace_10 rfl (lv_at hl 1 rfl) ?_
    refine lv_bipush (v := 43) hx hb dX12_sourcePlace_11 (by decide) ?_
    refine lv_iload_n hx hb dX12_sourcePlace_13 rfl (lv_at hl 2 rfl) ?_
    refine lv_iadd hx hb dX12_sourcePlace_14 ?_
    refine lv_topi (fun v6 ev6 => ?_)
    have h := elet_at ev6 h
    clear ev6
    obtain ⟨g7, h⟩ := oif_some h
    refine m_iald E G 14 6 (n := 2455) (k := v6.toNatClampNeg) rfl (inb_k g7).1 (inb_k g7).2 (by decide) dX12_sourcePlace_15 ?_
    refine lv_topi (fun v8 ev8 => ?_)
    have h := elet_at ev8 h
    clear ev8
    refine lv_iload hx hb dX12_sourcePlace_16 (lv_at hl 4 rfl) ?_
    refine lv_imul hx hb dX12_sourcePlace_18 ?_
    refine lv_topi (fun v9 ev9 => ?_)
    have h := elet_at ev9 h
    clear ev9
    refine lv_bipush (v := 100) hx hb dX12_sourcePlace_19 (by decide) ?_
    refine lv_idiv hx hb dX12_sourcePlace_21 (by decide) ?_
    refine lv_topi (fun v10 ev10 => ?_)
    have h := elet_at ev10 h
    clear ev10
    refine lv_iadd hx hb dX12_sourcePlace_22 ?_
    refine lv_topi (fun v11 ev11 => ?_)
    have h := elet_at ev11 h
    clear ev11
    refine lv_goto (tgt := 45) hx hb dX12_sourcePlace_23 (by decide) ?_
    have hl := lv_sub hl [] rfl
    exact tr_sourcePlace_14_b45 E hA hR hml (fun H locs ls G => W.iret (v := r1) hx hb hr (fun t ht hW => ⟨⟨r1, S1, rfl, ⟨rfl, rfl⟩, ⟨by rw [ht]; exact G.1, va_K.moved hW.alike hK, G.2.1⟩⟩, G.2.2.F ht⟩) G.2.2.2.2 dX12_sourcePlace_45) _ _ _ _ _ h G hl
def fr_rawAt_14_b127 (k71 : MS → Int32 → Int32 → Int32 → Int32 → Option (Int32 × MS)) (S : MS) (s0 : Int32) (s1 : Int32) (l2 : Int32) (l4 : Int32) (l6 : Int32) : Option (Int32 × MS) := elet (s1 + s0) fun v2 => elet (l6 + Int32.ofInt (1)) fun v3 => k71 S l2 l4 v2 v3
set_option maxHeartbeats 4000000 in
set_option maxRecDepth 100000 in
theorem tr_rawAt_14_b127 {p : Program} {l : Launch} {e : Env} {s : State} {m : MethodId} {args : Array Value} {below : List Frame} {meth : Method} {c : Code} {Q : State → Prop} {D : va_G} {A : Nat → Prop} {H0 : Heap} {cI cJ cZ : ClassId} {ad : Nat → Nat} {r1 : Int32} {S1 : MS} (E : mE p c cX12_rawAt s m args (Cond.code yX12_rawAt cX12_rawAt 7 (some .int) :: wsM) D cI cJ cZ) (hA : ∀ q : Nat, H0.size ≤ q → A q) (hR : sR s) (hml : c.maxLocals = 7) (kr19 : ∀ (H : Heap) (locs : List Loc) (ls : Array Slot), mG D cI cJ cZ ad A H0 H locs S1 → W p l e { frames := 5, cells := 0, slots := 0, locals := 120 } s m args below meth c H locs 0 0 Q (F0 m 19 ls [.int r1])) (kr64 : ∀ (H : Heap) (locs : List Loc) (ls : Array Slot), mG D cI cJ cZ ad A H0 H locs S1 → W p l e { frames := 5, cells := 0, slots := 0, locals := 120 } s m args below meth c H locs 0 0 Q (F0 m 64 ls [.int r1])) (kr148 : ∀ (H : Heap) (locs : List Loc) (ls : Array Slot), mG D cI cJ cZ ad A H0 H locs S1 → W p l e { frames := 5, cells := 0, slots := 0, locals := 120 } s m args below meth c H locs 0 0 Q (F0 m 148 ls [.int r1])) {k71 : MS → Int32 → Int32 → Int32 → Int32 → Option (Int32 × MS)} (hk71 : ∀ (S : MS) (H : Heap) (locs : List Loc) (ls : Array Slot) (l2 : Int32) (l4 : Int32) (l5 : Int32) (l6 : Int32), k71 S l2 l4 l5 l6 = some (r1, S1) → mG D cI cJ cZ ad A H0 H locs S → lv_has ls 7 [(0, .ref (ad 0)), (1, .ref (ad 14)), (2, .int l2), (4, .int l4), (5, .int l5), (6, .int l6)] → W p l e { frames := 5, cells := 0, slots := 0, locals := 120 } s m args below meth c H locs 0 0 Q (F0 m 71 ls [])) : ∀ (S : MS) (H : Heap) (locs : List Loc) (ls : Array Slot) (s0 : Int32) (s1 : Int32) (l2 : Int32) (l4 : Int32) (l6 : Int32), fr_rawAt_14_b127 k71 S s0 s1 l2 l4 l6 = some (r1, S1) → mG D cI cJ cZ ad A H0 H locs S → lv_has ls 7 [(0, .ref (ad 0)), (1, .ref (ad 14)), (2, .int l2), (4, .int l4), (6, .int l6)] → W p l e { frames := 5, cells := 0, slots := 0, locals := 120 } s m args below meth c H locs 0 0 Q (F0 m 127 ls [.int s0, .int s1]) := by
  have hx := E.1
  have hb := E.2.1
  have hts := E.2.2.1
  have hown := E.2.2.2.1
  have hK := E.2.2.2.2.1
  intro S H locs ls s0 s1 l2 l4 l6 h G hl
  unfold fr_rawAt_14_b127 at h
  refine lv_iadd hx hb dX12_rawAt_127 ?_
  refine lv_topi (fun v2 ev2 => ?_)
  have h := elet_at ev2 h
  clear ev2
  refine lv_istore (lv' := [(5, .int v2), (0, .ref (ad 0)), (1, .ref (ad 14)), (2, .int l2), (4, .int l4), (6, .int l6)]) hx hb dX12_rawAt_128 hl (by decide) rfl (fun ls hl => ?_)
  obtain ⟨v3, ev3, h⟩ := elet_some h
  refine lv_iinc (v := v3) (lv' := [(6, .int v3), (5, .int v2), (0, .ref (ad 0)), (1, .ref (ad 14)), (2, .int l2), (4, .int l4)]) hx hb dX12_rawAt_130 hl (k := 5) rfl ev3.symm (by decide) rfl (fun ls hl => ?_)
  refine lv_goto (tgt := 71) hx hb dX12_rawAt_133 (by decide) ?_
  have hl := lv_sub hl [2, 3, 4, 5, 1, 0] rfl
  exact hk71 _ _ _ _ _ _ _ _ h G hl
def fr_rawAt_14_b71  : Nat → MS → Int32 → Int32 → Int32 → Int32 → Option (Int32 × MS)
  | 0, _, _, _, _, _ => none
  | n + 1, S, l2, l4, l5, l6 => elet (S.2.1 10 5) fun v2 => if v2 ≤ l6 then (elet (35 + l2) fun v4 => oif (inb v4 131 = true) <| elet (S.2.1 10 v4.toNatClampNeg) fun v6 => elet (v6 * l5) fun v7 => some (v7, S)) else (elet (25 + l6) fun v8 => oif (inb v8 2455 = true) <| elet (S.2.1 14 v8.toNatClampNeg) fun v10 => if v10 = 0 then (fr_rawAt_14_b127 (fr_rawAt_14_b71 n) S 0 l5 l2 l4 l6) else (obind2 (fr_sourcePlace_14 S l6 0 l4) fun r15 S12 => obind2 (fr_sourcePlace_14 S12 l6 1 l4) fun r19 S16 => obind2 (fr_heardOf S16 l2 r15 r19 l6 l4) fun r23 S20 => fr_rawAt_14_b127 (fr_rawAt_14_b71 n) S20 r23 l5 l2 l4 l6))
set_option maxHeartbeats 4000000 in
set_option maxRecDepth 100000 in
theorem tr_rawAt_14_b71 {p : Program} {l : Launch} {e : Env} {s : State} {m : MethodId} {args : Array Value} {below : List Frame} {meth : Method} {c : Code} {Q : State → Prop} {D : va_G} {A : Nat → Prop} {H0 : Heap} {cI cJ cZ : ClassId} {ad : Nat → Nat} {r1 : Int32} {S1 : MS} (E : mE p c cX12_rawAt s m args (Cond.code yX12_rawAt cX12_rawAt 7 (some .int) :: wsM) D cI cJ cZ) (hA : ∀ q : Nat, H0.size ≤ q → A q) (hR : sR s) (hml : c.maxLocals = 7) (kr19 : ∀ (H : Heap) (locs : List Loc) (ls : Array Slot), mG D cI cJ cZ ad A H0 H locs S1 → W p l e { frames := 5, cells := 0, slots := 0, locals := 120 } s m args below meth c H locs 0 0 Q (F0 m 19 ls [.int r1])) (kr64 : ∀ (H : Heap) (locs : List Loc) (ls : Array Slot), mG D cI cJ cZ ad A H0 H locs S1 → W p l e { frames := 5, cells := 0, slots := 0, locals := 120 } s m args below meth c H locs 0 0 Q (F0 m 64 ls [.int r1])) (kr148 : ∀ (H : Heap) (locs : List Loc) (ls : Array Slot), mG D cI cJ cZ ad A H0 H locs S1 → W p l e { frames := 5, cells := 0, slots := 0, locals := 120 } s m args below meth c H locs 0 0 Q (F0 m 148 ls [.int r1])) : ∀ n : Nat, ∀ (S : MS) (H : Heap) (locs : List Loc) (ls : Array Slot) (l2 : Int32) (l4 : Int32) (l5 : Int32) (l6 : Int32), fr_rawAt_14_b71 n S l2 l4 l5 l6 = some (r1, S1) → mG D cI cJ cZ ad A H0 H locs S → lv_has ls 7 [(0, .ref (ad 0)), (1, .ref (ad 14)), (2, .int l2), (4, .int l4), (5, .int l5), (6, .int l6)] → W p l e { frames := 5, cells := 0, slots := 0, locals := 120 } s m args below meth c H locs 0 0 Q (F0 m 71 ls []) := by
  have hx := E.1
  have hb := E.2.1
  have hts := E.2.2.1
  have hown := E.2.2.2.1
  have hK := E.2.2.2.2.1
  intro n
  induction n with
  | zero =>
    intro S H locs ls l2 l4 l5 l6 h
    have h : (none : Option (Int32 × MS)) = some (r1, S1) := h
    cases h
  | succ n ih =>
    intro S H locs ls l2 l4 l5 l6 h G hl
    unfold fr_rawAt_14_b71 at h
    refine lv_iload hx hb dX12_rawAt_71 (lv_at hl 5 rfl) ?_
    refine lv_aload_n hx hb dX12_rawAt_73 rfl (lv_at hl 0 rfl) ?_
    refine m_get E G 10 (v := .ref (ad 10)) (by decide) (.tail _ qM_7) rfl dX12_rawAt_74 rfl ?_
    refine lv_iconst (v := 5) hx hb dX12_rawAt_77 (by decide) ?_
    refine m_iald E G 10 2 (n := 131) (k := 5) rfl rfl (by decide) (by decide) dX12_rawAt_78 ?_
    refine lv_topi (fun v2 ev2 => ?_)
    have h := elet_at ev2 h
    clear ev2
    refine lv_icmp_ge (tgt := 136) hx hb dX12_rawAt_79 (by decide) (fun c3 => ?_) (fun c3 => ?_)
    · have h := oif_pos c3 h
      refine lv_aload_n hx hb dX12_rawAt_136 rfl (lv_at hl 0 rfl) ?_
      refine m_get E G 10 (v := .ref (ad 10)) (by decide) (.tail _ qM_7) rfl dX12_rawAt_137 rfl ?_
      refine lv_bipush (v := 35) hx hb dX12_rawAt_140 (by decide) ?_
      refine lv_iload_n hx hb dX12_rawAt_142 rfl (lv_at hl 2 rfl) ?_
      refine lv_iadd hx hb dX12_rawAt_143 ?_
      refine lv_topi (fun v4 ev4 => ?_)
      have h := elet_at ev4 h
      clear ev4
      obtain ⟨g5, h⟩ := oif_some h
      refine m_iald E G 10 2 (n := 131) (k := v4.toNatClampNeg) rfl (inb_k g5).1 (inb_k g5).2 (by decide) dX12_rawAt_144 ?_
      refine lv_topi (fun v6 ev6 => ?_)
      have h := elet_at ev6 h
      clear ev6
      refine lv_iload hx hb dX12_rawAt_145 (lv_at hl 4 rfl) ?_
      refine lv_imul hx hb dX12_rawAt_147 ?_
      refine lv_topi (fun v7 ev7 => ?_)
      have h := elet_at ev7 h
      clear ev7
      rw [(osome2 h).2] at G
      refine lv_to (osome2 h).1 ?_
      exact kr148 _ _ _ G
    · have h := oif_neg c3 h
      refine lv_iload hx hb dX12_rawAt_82 (lv_at hl 4 rfl) ?_
      refine lv_aload_n hx hb dX12_rawAt_84 rfl (lv_at hl 1 rfl) ?_
      refine lv_bipush (v := 25) hx hb dX12_rawAt_85 (by decide) ?_
      refine lv_iload hx hb dX12_rawAt_87 (lv_at hl 5 rfl) ?_
      refine lv_iadd hx hb dX12_rawAt_89 ?_
      refine lv_topi (fun v8 ev8 => ?_)
      have h := elet_at ev8 h
      clear ev8
      obtain ⟨g9, h⟩ := oif_some h
      refine m_iald E G 14 6 (n := 2455) (k := v8.toNatClampNeg) rfl (inb_k g9).1 (inb_k g9).2 (by decide) dX12_rawAt_90 ?_
      refine lv_topi (fun v10 ev10 => ?_)
      have h := elet_at ev10 h
      clear ev10
      refine lv_if_ne (tgt := 98) hx hb dX12_rawAt_91 (by decide) (fun c11 => ?_) (fun c11 => ?_)
      · have h := oif_neg c11 h
        refine lv_aload_n hx hb dX12_rawAt_98 rfl (lv_at hl 0 rfl) ?_
        refine lv_iload_n hx hb dX12_rawAt_99 rfl (lv_at hl 2 rfl) ?_
        refine lv_aload_n hx hb dX12_rawAt_100 rfl (lv_at hl 0 rfl) ?_
        refine lv_aload_n hx hb dX12_rawAt_101 rfl (lv_at hl 1 rfl) ?_
        refine lv_iload hx hb dX12_rawAt_102 (lv_at hl 5 rfl) ?_
        refine lv_iconst (v := 0) hx hb dX12_rawAt_104 (by decide) ?_
        refine lv_iload hx hb dX12_rawAt_105 (lv_at hl 3 rfl) ?_
        obtain ⟨r15, S12, eS12, h⟩ := obind2_some h
        refine m_calli (As := [.ref (ad 14), .int l6, .int 0, .int l4]) (rest := [.int l2, .ref (ad 0), .int l5]) E G hA hR hml (tr_sourcePlace_14 l D cI cJ cZ ad S l6 0 l4 eS12) (cwV 4 hts (gmV qM_250 qM_251 qM_252 qM_35 qM_253) rfl rfl rfl (by decide +kernel) ⟨Nat.le_of_ble_eq_true rfl, Nat.le_of_ble_eq_true rfl⟩) rfl hl.1 rfl (lv_room (Nat.le_of_ble_eq_true rfl)) dX12_rawAt_107 ⟨Nat.zero_le _, Nat.zero_le _⟩ (fun q13 S14 H locs hq G => ?_)
        obtain ⟨hq1, hq2⟩ := hq
        rw [hq2] at G
        refine lv_to hq1 ?_
        clear hq1 hq2 eS12
        refine lv_aload_n hx hb dX12_rawAt_110 rfl (lv_at hl 0 rfl) ?_
        refine lv_aload_n hx hb dX12_rawAt_111 rfl (lv_at hl 1 rfl) ?_
        refine lv_iload hx hb dX12_rawAt_112 (lv_at hl 5 rfl) ?_
        refine lv_iconst (v := 1) hx hb dX12_rawAt_114 (by decide) ?_
        refine lv_iload hx hb dX12_rawAt_115 (lv_at hl 3 rfl) ?_
        obtain ⟨r19, S16, eS16, h⟩ := obind2_some h
        refine m_calli (As := [.ref (ad 14), .int l6, .int 1, .int l4]) (rest := [.int r15, .int l2, .ref (ad 0), .int l5]) E G hA hR hml (tr_sourcePlace_14 l D cI cJ cZ ad S12 l6 1 l4 eS16) (cwV 4 hts (gmV qM_250 qM_251 qM_252 qM_35 qM_253) rfl rfl rfl (by decide +kernel) ⟨Nat.le_of_ble_eq_true rfl, Nat.le_of_ble_eq_true rfl⟩) rfl hl.1 rfl (lv_room (Nat.le_of_ble_eq_true rfl)) dX12_rawAt_117 ⟨Nat.zero_le _, Nat.zero_le _⟩ (fun q17 S18 H locs hq G => ?_)
        obtain ⟨hq1, hq2⟩ := hq
        rw [hq2] at G
        refine lv_to hq1 ?_
        clear hq1 hq2 eS16
        refine lv_iload hx hb dX12_rawAt_120 (lv_at hl 5 rfl) ?_
        refine lv_iload hx hb dX12_rawAt_122 (lv_at hl 3 rfl) ?_
        obtain ⟨r23, S20, eS20, h⟩ := obind2_some h
        refine m_calli (As := [.int l2, .int r15, .int r19, .int l6, .int l4]) (rest := [.int l5]) E G hA hR hml (tr_heardOf l D cI cJ cZ ad S16 l2 r15 r19 l6 l4 eS20) (cwV 5 hts (gmV qM_228 qM_229 qM_230 qM_35 qM_231) rfl rfl rfl (by decide +kernel) ⟨Nat.le_of_ble_eq_true rfl, Nat.le_of_ble_eq_true rfl⟩) rfl hl.1 rfl (lv_room (Nat.le_of_ble_eq_true rfl)) dX12_rawAt_124 ⟨Nat.zero_le _, Nat.zero_le _⟩ (fun q21 S22 H locs hq G => ?_)
        obtain ⟨hq1, hq2⟩ := hq
        rw [hq2] at G
        refine lv_to hq1 ?_
        clear hq1 hq2 eS20
        have hl := lv_sub hl [0, 1, 2, 3, 5] rfl
        exact tr_rawAt_14_b127 E hA hR hml kr19 kr64 kr148 ih _ _ _ _ _ _ _ _ _ h G hl
      · have h := oif_pos c11 h
        refine lv_iconst (v := 0) hx hb dX12_rawAt_94 (by decide) ?_
        refine lv_goto (tgt := 127) hx hb dX12_rawAt_95 (by decide) ?_
        have hl := lv_sub hl [0, 1, 2, 3, 5] rfl
        exact tr_rawAt_14_b127 E hA hR hml kr19 kr64 kr148 ih _ _ _ _ _ _ _ _ _ h G hl
def fr_rawAt_14 (S : MS) (a1 : Int32) (a2 : Int32) : Option (Int32 × MS) := elet (83 + a1) fun v2 => oif (inb v2 131 = true) <| elet (S.2.1 10 v2.toNatClampNeg) fun v4 => elet (a2 - v4) fun v5 => if 0 ≤ v5 then (elet (S.1 21) fun v7 => if v7 = (-1) then (fr_rawAt_14_b71 16384 S a1 v5 0 0) else (elet (35 + a1) fun v9 => oif (inb v9 131 = true) <| elet (S.2.1 10 v9.toNatClampNeg) fun v11 => elet (S.1 21) fun v12 => obind2 (fr_centre S v12 0) fun r16 S13 => elet (S13.1 21) fun v17 => obind2 (fr_centre S13 v17 1) fun r21 S18 => obind2 (fr_heardOf S18 a1 r16 r21 0 v5) fun r25 S22 => elet (v11 * r25) fun v26 => some (v26, S22))) else (some (0, S))
set_option maxHeartbeats 4000000 in
set_option maxRecDepth 100000 in
theorem tr_rawAt_14 (l : Launch) (D : va_G) (cI cJ cZ : ClassId) (ad : Nat → Nat) (S : MS) (a1 : Int32) (a2 : Int32) {r1 : Int32} {S1 : MS} (h : fr_rawAt_14 S a1 a2 = some (r1, S1)) : mCi l yX12_rawAt (Cond.code yX12_rawAt cX12_rawAt 7 (some .int) :: wsM) 5 120 D cI cJ cZ ad S [.ref (ad 14), .int a1, .int a2] (fun r S9 => r = r1 ∧ S9 = S1) := by
  intro sz
  refine Met.ofW (cc := cX12_rawAt) (maxL := 7) (ret := (some .int)) (by decide) rfl ?_
  intro p e s m args below meth c s₁ B hml hv
  obtain ⟨rfl, hsz, hP, hK, hD0, hR⟩ := hv
  have hx := B.exec
  have hb := B.bytes
  have hr := B.returns
  have hts := atoms_spec (ws := (Cond.code yX12_rawAt cX12_rawAt 7 (some .int) :: wsM)) B.pre
  have hown : s.vm.findClass RX12 = some m.cls := findClass_of_methodNamed B.named
  have hlocks := B.notSynchronized
  subst hsz
  have hD := hD0.self (sz := s.heap.size)
  generalize hAe : va_A (MW cI cJ cZ ad S) s.heap.size = A at hD ⊢
  have hA : ∀ q : Nat, s.heap.size ≤ q → A q := fun q h => by rw [← hAe]; exact Or.inr h
  have G : mG D cI cJ cZ ad A s.heap s.heap [] S := ⟨hP, hD, va_S.rf⟩
  have E : mE p c cX12_rawAt s m ([.ref (ad 0), .ref (ad 14), .int a1, .int a2] : List Value).toArray (Cond.code yX12_rawAt cX12_rawAt 7 (some .int) :: wsM) D cI cJ cZ := ⟨hx, hb, hts, hown, hK, fun w h => .tail _ (iM_x h)⟩
  have hl := lv_entry ([.ref (ad 0), .ref (ad 14), .int a1, .int a2]) (n := 7) (Nat.le_of_ble_eq_true rfl)
  rw [lg_entry_eq]
  generalize (lg_sl ([.ref (ad 0), .ref (ad 14), .int a1, .int a2]) ++ List.replicate (7 - (lg_sl ([.ref (ad 0), .ref (ad 14), .int a1, .int a2])).length) Slot.unset).toArray = ls at hl ⊢
  have hl : lv_has ls 7 [(0, .ref (ad 0)), (1, .ref (ad 14)), (2, .int a1), (3, .int a2)] := hl
  unfold fr_rawAt_14 at h
  refine lv_iload_n hx hb dX12_rawAt_0 rfl (lv_at hl 3 rfl) ?_
  refine lv_aload_n hx hb dX12_rawAt_1 rfl (lv_at hl 0 rfl) ?_
  refine m_get E G 10 (v := .ref (ad 10)) (by decide) (.tail _ qM_7) rfl dX12_rawAt_2 rfl ?_
  refine lv_bipush (v := 83) hx hb dX12_rawAt_5 (by decide) ?_
  refine lv_iload_n hx hb dX12_rawAt_7 rfl (lv_at hl 2 rfl) ?_
  refine lv_iadd hx hb dX12_rawAt_8 ?_
  refine lv_topi (fun v2 ev2 => ?_)
  have h := elet_at ev2 h
  clear ev2
  obtain ⟨g3, h⟩ := oif_some h
  refine m_iald E G 10 2 (n := 131) (k := v2.toNatClampNeg) rfl (inb_k g3).1 (inb_k g3).2 (by decide) dX12_rawAt_9 ?_
  refine lv_topi (fun v4 ev4 => ?_)
  have h := elet_at ev4 h
  clear ev4
  refine lv_isub hx hb dX12_rawAt_10 ?_
  refine lv_topi (fun v5 ev5 => ?_)
  have h := elet_at ev5 h
  clear ev5
  refine lv_istore (lv' := [(4, .int v5), (0, .ref (ad 0)), (1, .ref (ad 14)), (2, .int a1), (3, .int a2)]) hx hb dX12_rawAt_11 hl (by decide) rfl (fun ls hl => ?_)
  refine lv_iload hx hb dX12_rawAt_13 (lv_at hl 0 rfl) ?_
  refine lv_if_ge (tgt := 20) hx hb dX12_rawAt_15 (by decide) (fun c6 => ?_) (fun c6 => ?_)
  · have h := oif_pos c6 h
    refine lv_aload_n hx hb dX12_rawAt_20 rfl (lv_at hl 1 rfl) ?_
    refine m_get E G 21 (v := .int (S.1 21)) (by decide) (.tail _ qM_17) rfl dX12_rawAt_21 rfl ?_
    refine lv_topi (fun v7 ev7 => ?_)
    have h := elet_at ev7 h
    clear ev7
    refine lv_iconst (v := (-1)) hx hb dX12_rawAt_24 (by decide) ?_
    refine lv_icmp_eq (tgt := 65) hx hb dX12_rawAt_25 (by decide) (fun c8 => ?_) (fun c8 => ?_)
    · have h := oif_pos c8 h
      refine lv_iconst (v := 0) hx hb dX12_rawAt_65 (by decide) ?_
      refine lv_istore (lv' := [(5, .int 0), (4, .int v5), (0, .ref (ad 0)), (1, .ref (ad 14)), (2, .int a1), (3, .int a2)]) hx hb dX12_rawAt_66 hl (by decide) rfl (fun ls hl => ?_)
      refine lv_iconst (v := 0) hx hb dX12_rawAt_68 (by decide) ?_
      refine lv_istore (lv' := [(6, .int 0), (5, .int 0), (4, .int v5), (0, .ref (ad 0)), (1, .ref (ad 14)), (2, .int a1), (3, .int a2)]) hx hb dX12_rawAt_69 hl (by decide) rfl (fun ls hl => ?_)
      have hl := lv_sub hl [3, 4, 5, 2, 1, 0] rfl
      exact tr_rawAt_14_b71 E hA hR hml (fun H locs ls G => W.iret (v := r1) hx hb hr (fun t ht hW => ⟨⟨r1, S1, rfl, ⟨rfl, rfl⟩, ⟨by rw [ht]; exact G.1, va_K.moved hW.alike hK, G.2.1⟩⟩, G.2.2.F ht⟩) G.2.2.2.2 dX12_rawAt_19) (fun H locs ls G => W.iret (v := r1) hx hb hr (fun t ht hW => ⟨⟨r1, S1, rfl, ⟨rfl, rfl⟩, ⟨by rw [ht]; exact G.1, va_K.moved hW.alike hK, G.2.1⟩⟩, G.2.2.F ht⟩) G.2.2.2.2 dX12_rawAt_64) (fun H locs ls G => W.iret (v := r1) hx hb hr (fun t ht hW => ⟨⟨r1, S1, rfl, ⟨rfl, rfl⟩, ⟨by rw [ht]; exact G.1, va_K.moved hW.alike hK, G.2.1⟩⟩, G.2.2.F ht⟩) G.2.2.2.2 dX12_rawAt_148) _ _ _ _ _ _ _ _ _ h G hl
    · have h := oif_neg c8 h
      refine lv_aload_n hx hb dX12_rawAt_28 rfl (lv_at hl 1 rfl) ?_
      refine m_get E G 10 (v := .ref (ad 10)) (by decide) (.tail _ qM_7) rfl dX12_rawAt_29 rfl ?_
      refine lv_bipush (v := 35) hx hb dX12_rawAt_32 (by decide) ?_
      refine lv_iload_n hx hb dX12_rawAt_34 rfl (lv_at hl 3 rfl) ?_
      refine lv_iadd hx hb dX12_rawAt_35 ?_
      refine lv_topi (fun v9 ev9 => ?_)
      have h := elet_at ev9 h
      clear ev9
      obtain ⟨g10, h⟩ := oif_some h
      refine m_iald E G 10 2 (n := 131) (k := v9.toNatClampNeg) rfl (inb_k g10).1 (inb_k g10).2 (by decide) dX12_rawAt_36 ?_
      refine lv_topi (fun v11 ev11 => ?_)
      have h := elet_at ev11 h
      clear ev11
      refine lv_aload_n hx hb dX12_rawAt_37 rfl (lv_at hl 1 rfl) ?_
      refine lv_iload_n hx hb dX12_rawAt_38 rfl (lv_at hl 3 rfl) ?_
      refine lv_aload_n hx hb dX12_rawAt_39 rfl (lv_at hl 1 rfl) ?_
      refine lv_aload_n hx hb dX12_rawAt_40 rfl (lv_at hl 1 rfl) ?_
      refine m_get E G 21 (v := .int (S.1 21)) (by decide) (.tail _ qM_17) rfl dX12_rawAt_41 rfl ?_
      refine lv_topi (fun v12 ev12 => ?_)
      have h := elet_at ev12 h
      clear ev12
      refine lv_iconst (v := 0) hx hb dX12_rawAt_44 (by decide) ?_
      obtain ⟨r16, S13, eS13, h⟩ := obind2_some h
      refine m_calli (As := [.int v12, .int 0]) (rest := [.int a1, .ref (ad 0), .int v11]) E G hA hR hml (tr_centre l D cI cJ cZ ad S v12 0 eS13) (cwV 2 hts (gmV qM_208 qM_209 qM_210 qM_35 qM_211) rfl rfl rfl (by decide +kernel) ⟨Nat.le_of_ble_eq_true rfl, Nat.le_of_ble_eq_true rfl⟩) rfl hl.1 rfl (lv_room (Nat.le_of_ble_eq_true rfl)) dX12_rawAt_45 ⟨Nat.zero_le _, Nat.zero_le _⟩ (fun q14 S15 H locs hq G => ?_)
      obtain ⟨hq1, hq2⟩ := hq
      rw [hq2] at G
      refine lv_to hq1 ?_
      clear hq1 hq2 eS13
      refine lv_aload_n hx hb dX12_rawAt_48 rfl (lv_at hl 1 rfl) ?_
      refine lv_aload_n hx hb dX12_rawAt_49 rfl (lv_at hl 1 rfl) ?_
      refine m_get E G 21 (v := .int (S13.1 21)) (by decide) (.tail _ qM_17) rfl dX12_rawAt_50 rfl ?_
      refine lv_topi (fun v17 ev17 => ?_)
      have h := elet_at ev17 h
      clear ev17
      refine lv_iconst (v := 1) hx hb dX12_rawAt_53 (by decide) ?_
      obtain ⟨r21, S18, eS18, h⟩ := obind2_some h
      refine m_calli (As := [.int v17, .int 1]) (rest := [.int r16, .int a1, .ref (ad 0), .int v11]) E G hA hR hml (tr_centre l D cI cJ cZ ad S13 v17 1 eS18) (cwV 2 hts (gmV qM_208 qM_209 qM_210 qM_35 qM_211) rfl rfl rfl (by decide +kernel) ⟨Nat.le_of_ble_eq_true rfl, Nat.le_of_ble_eq_true rfl⟩) rfl hl.1 rfl (lv_room (Nat.le_of_ble_eq_true rfl)) dX12_rawAt_54 ⟨Nat.zero_le _, Nat.zero_le _⟩ (fun q19 S20 H locs hq G => ?_)
      obtain ⟨hq1, hq2⟩ := hq
      rw [hq2] at G
      refine lv_to hq1 ?_
      clear hq1 hq2 eS18
      refine lv_iconst (v := 0) hx hb dX12_rawAt_57 (by decide) ?_
      refine lv_iload hx hb dX12_rawAt_58 (lv_at hl 0 rfl) ?_
      obtain ⟨r25, S22, eS22, h⟩ := obind2_some h
      refine m_calli (As := [.int a1, .int r16, .int r21, .int 0, .int v5]) (rest := [.int v11]) E G hA hR hml (tr_heardOf l D cI cJ cZ ad S18 a1 r16 r21 0 v5 eS22) (cwV 5 hts (gmV qM_228 qM_229 qM_230 qM_35 qM_231) rfl rfl rfl (by decide +kernel) ⟨Nat.le_of_ble_eq_true rfl, Nat.le_of_ble_eq_true rfl⟩) rfl hl.1 rfl (lv_room (Nat.le_of_ble_eq_true rfl)) dX12_rawAt_60 ⟨Nat.zero_le _, Nat.zero_le _⟩ (fun q23 S24 H locs hq G => ?_)
      obtain ⟨hq1, hq2⟩ := hq
      rw [hq2] at G
      refine lv_to hq1 ?_
      clear hq1 hq2 eS22
      refine lv_imul hx hb dX12_rawAt_63 ?_
      refine lv_topi (fun v26 ev26 => ?_)
      have h := elet_at ev26 h
      clear ev26
      exact W.iret (v := v26) hx hb hr (fun t ht hW => ⟨⟨v26, S22, rfl, osome2 h, ⟨by rw [ht]; exact G.1, va_K.moved hW.alike hK, G.2.1⟩⟩, G.2.2.F ht⟩) G.2.2.2.2 dX12_rawAt_64
  · have h := oif_neg c6 h
    refine lv_iconst (v := 0) hx hb dX12_rawAt_18 (by decide) ?_
    exact W.iret (v := 0) hx hb hr (fun t ht hW => ⟨⟨0, S, rfl, osome2 h, ⟨by rw [ht]; exact G.1, va_K.moved hW.alike hK, G.2.1⟩⟩, G.2.2.F ht⟩) G.2.2.2.2 dX12_rawAt_19
def fr_records_14_b49 (k6 : MS → Int32 → Option (MS)) : Nat → MS → Int32 → Int32 → Option (MS)
  | 0, _, _, _ => none
  | n + 1, S, l2, l3 => elet (S.2.1 10 2) fun v2 => if v2 ≤ l3 then (elet (l2 + Int32.ofInt (1)) fun v4 => k6 S v4) else (elet (200 * l2) fun v5 => elet (55 + v5) fun v6 => elet (v6 + l3) fun v7 => obind2 (fr_filtered S l3) fun r11 S8 => obind2 (fr_bounded S8 r11) fun r15 S12 => oif (inb v7 2455 = true) <| elet (mf S12 14 (upd (S12.2.1 14) v7.toNatClampNeg r15)) fun S17 => elet (l3 + Int32.ofInt (1)) fun v18 => fr_records_14_b49 k6 n S17 l2 v18)
set_option maxHeartbeats 4000000 in
set_option maxRecDepth 100000 in
theorem tr_records_14_b49 {p : Program} {l : Launch} {e : Env} {s : State} {m : MethodId} {args : Array Value} {below : List Frame} {meth : Method} {c : Code} {Q : State → Prop} {D : va_G} {A : Nat → Prop} {H0 : Heap} {cI cJ cZ : ClassId} {ad : Nat → Nat} {S1 : MS} (E : mE p c cX12_records s m args (Cond.code yX12_records cX12_records 4 none :: wsM) D cI cJ cZ) (hA : ∀ q : Nat, H0.size ≤ q → A q) (hR : sR s) (hml : c.maxLocals = 4) (kr92 : ∀ (H : Heap) (locs : List Loc) (ls : Array Slot), mG D cI cJ cZ ad A H0 H locs S1 → W p l e { frames := 6, cells := 0, slots := 0, locals := 146 } s m args below meth c H locs 0 0 Q (F0 m 92 ls [])) {k6 : MS → Int32 → Option (MS)} (hk6 : ∀ (S : MS) (H : Heap) (locs : List Loc) (ls : Array Slot) (l2 : Int32), k6 S l2 = some S1 → mG D cI cJ cZ ad A H0 H locs S → lv_has ls 4 [(0, .ref (ad 0)), (1, .ref (ad 14)), (2, .int l2)] → W p l e { frames := 6, cells := 0, slots := 0, locals := 146 } s m args below meth c H locs 0 0 Q (F0 m 6 ls [])) : ∀ n : Nat, ∀ (S : MS) (H : Heap) (locs : List Loc) (ls : Array Slot) (l2 : Int32) (l3 : Int32), fr_records_14_b49 k6 n S l2 l3 = some S1 → mG D cI cJ cZ ad A H0 H locs S → lv_has ls 4 [(0, .ref (ad 0)), (1, .ref (ad 14)), (2, .int l2), (3, .int l3)] → W p l e { frames := 6, cells := 0, slots := 0, locals := 146 } s m args below meth c H locs 0 0 Q (F0 m 49 ls []) := by
  have hx := E.1
  have hb := E.2.1
  have hts := E.2.2.1
  have hown := E.2.2.2.1
  have hK := E.2.2.2.2.1
  intro n
  induction n with
  | zero =>
    intro S H locs ls l2 l3 h
    have h : (none : Option (MS)) = some S1 := h
    cases h
  | succ n ih =>
    intro S H locs ls l2 l3 h G hl
    unfold fr_records_14_b49 at h
    refine lv_iload_n hx hb dX12_records_49 rfl (lv_at hl 3 rfl) ?_
    refine lv_aload_n hx hb dX12_records_50 rfl (lv_at hl 0 rfl) ?_
    refine m_get E G 10 (v := .ref (ad 10)) (by decide) (.tail _ qM_7) rfl dX12_records_51 rfl ?_
    refine lv_iconst (v := 2) hx hb dX12_records_54 (by decide) ?_
    refine m_iald E G 10 2 (n := 131) (k := 2) rfl rfl (by decide) (by decide) dX12_records_55 ?_
    refine lv_topi (fun v2 ev2 => ?_)
    have h := elet_at ev2 h
    clear ev2
    refine lv_icmp_ge (tgt := 86) hx hb dX12_records_56 (by decide) (fun c3 => ?_) (fun c3 => ?_)
    · have h := oif_pos c3 h
      obtain ⟨v4, ev4, h⟩ := elet_some h
      refine lv_iinc (v := v4) (lv' := [(2, .int v4), (0, .ref (ad 0)), (1, .ref (ad 14)), (3, .int l3)]) hx hb dX12_records_86 hl (k := 2) rfl ev4.symm (by decide) rfl (fun ls hl => ?_)
      refine lv_goto (tgt := 6) hx hb dX12_records_89 (by decide) ?_
      have hl := lv_sub hl [1, 2, 0] rfl
      exact hk6 _ _ _ _ _ h G hl
    · have h := oif_neg c3 h
      refine lv_aload_n hx hb dX12_records_59 rfl (lv_at hl 1 rfl) ?_
      refine lv_bipush (v := 55) hx hb dX12_records_60 (by decide) ?_
      refine lv_sipush (v := 200) hx hb dX12_records_62 (by decide) ?_
      refine lv_iload_n hx hb dX12_records_65 rfl (lv_at hl 2 rfl) ?_
      refine lv_imul hx hb dX12_records_66 ?_
      refine lv_topi (fun v5 ev5 => ?_)
      have h := elet_at ev5 h
      clear ev5
      refine lv_iadd hx hb dX12_records_67 ?_
      refine lv_topi (fun v6 ev6 => ?_)
      have h := elet_at ev6 h
      clear ev6
      refine lv_iload_n hx hb dX12_records_68 rfl (lv_at hl 3 rfl) ?_
      refine lv_iadd hx hb dX12_records_69 ?_
      refine lv_topi (fun v7 ev7 => ?_)
      have h := elet_at ev7 h
      clear ev7
      refine lv_aload_n hx hb dX12_records_70 rfl (lv_at hl 0 rfl) ?_
      refine lv_aload_n hx hb dX12_records_71 rfl (lv_at hl 0 rfl) ?_
      refine lv_iload_n hx hb dX12_records_72 rfl (lv_at hl 3 rfl) ?_
      obtain ⟨r11, S8, eS8, h⟩ := obind2_some h
      refine m_calli (As := [.int l3]) (rest := [.ref (ad 0), .int v7, .ref (ad 14)]) E G hA hR hml (tr_filtered l D cI cJ cZ ad S l3 eS8) (cwV 1 hts (gmV qM_254 qM_255 qM_256 qM_35 qM_257) rfl rfl rfl (by decide +kernel) ⟨Nat.le_of_ble_eq_true rfl, Nat.le_of_ble_eq_true rfl⟩) rfl hl.1 rfl (lv_room (Nat.le_of_ble_eq_true rfl)) dX12_records_73 ⟨Nat.zero_le _, Nat.zero_le _⟩ (fun q9 S10 H locs hq G => ?_)
      obtain ⟨hq1, hq2⟩ := hq
      rw [hq2] at G
      refine lv_to hq1 ?_
      clear hq1 hq2 eS8
      obtain ⟨r15, S12, eS12, h⟩ := obind2_some h
      refine m_calli (As := [.int r11]) (rest := [.int v7, .ref (ad 14)]) E G hA hR hml (tr_bounded l D cI cJ cZ ad S8 r11 eS12) (cwV 1 hts (gmV qM_258 qM_259 qM_260 qM_35 qM_261) rfl rfl rfl (by decide +kernel) ⟨Nat.le_of_ble_eq_true rfl, Nat.le_of_ble_eq_true rfl⟩) rfl hl.1 rfl (lv_room (Nat.le_of_ble_eq_true rfl)) dX12_records_76 ⟨Nat.zero_le _, Nat.zero_le _⟩ (fun q13 S14 H locs hq G => ?_)
      obtain ⟨hq1, hq2⟩ := hq
      rw [hq2] at G
      refine lv_to hq1 ?_
      clear hq1 hq2 eS12
      obtain ⟨g16, h⟩ := oif_some h
      refine m_iast E G 14 6 (k := v7.toNatClampNeg) (v := r15) rfl (fun _ => rfl) (inb_k g16).1 (inb_k g16).2 (by decide) dX12_records_79 (fun H locs G => ?_)
      obtain ⟨S17, eS17, h⟩ := elet_some h
      rw [← eS17] at G
      clear eS17
      obtain ⟨v18, ev18, h⟩ := elet_some h
      refine lv_iinc (v := v18) (lv' := [(3, .int v18), (0, .ref (ad 0)), (1, .ref (ad 14)), (2, .int l2)]) hx hb dX12_records_80 hl (k := 3) rfl ev18.symm (by decide) rfl (fun ls hl => ?_)
      refine lv_goto (tgt := 49) hx hb dX12_records_83 (by decide) ?_
      have hl := lv_sub hl [1, 2, 3, 0] rfl
      exact ih _ _ _ _ _ _ h G hl
def fr_records_14_b18 (k6 : MS → Int32 → Option (MS)) : Nat → MS → Int32 → Int32 → Option (MS)
  | 0, _, _, _ => none
  | n + 1, S, l2, l3 => elet (S.2.1 10 2) fun v2 => if v2 ≤ l3 then (fr_records_14_b49 k6 16384 S l2 0) else (obind2 (fr_rawAt_14 S l2 l3) fun r7 S4 => oif (inb l3 200 = true) <| elet (mf S4 23 (upd (S4.2.1 23) l3.toNatClampNeg r7)) fun S9 => elet (l3 + Int32.ofInt (1)) fun v10 => fr_records_14_b18 k6 n S9 l2 v10)
set_option maxHeartbeats 4000000 in
set_option maxRecDepth 100000 in
theorem tr_records_14_b18 {p : Program} {l : Launch} {e : Env} {s : State} {m : MethodId} {args : Array Value} {below : List Frame} {meth : Method} {c : Code} {Q : State → Prop} {D : va_G} {A : Nat → Prop} {H0 : Heap} {cI cJ cZ : ClassId} {ad : Nat → Nat} {S1 : MS} (E : mE p c cX12_records s m args (Cond.code yX12_records cX12_records 4 none :: wsM) D cI cJ cZ) (hA : ∀ q : Nat, H0.size ≤ q → A q) (hR : sR s) (hml : c.maxLocals = 4) (kr92 : ∀ (H : Heap) (locs : List Loc) (ls : Array Slot), mG D cI cJ cZ ad A H0 H locs S1 → W p l e { frames := 6, cells := 0, slots := 0, locals := 146 } s m args below meth c H locs 0 0 Q (F0 m 92 ls [])) {k6 : MS → Int32 → Option (MS)} (hk6 : ∀ (S : MS) (H : Heap) (locs : List Loc) (ls : Array Slot) (l2 : Int32), k6 S l2 = some S1 → mG D cI cJ cZ ad A H0 H locs S → lv_has ls 4 [(0, .ref (ad 0)), (1, .ref (ad 14)), (2, .int l2)] → W p l e { frames := 6, cells := 0, slots := 0, locals := 146 } s m args below meth c H locs 0 0 Q (F0 m 6 ls [])) : ∀ n : Nat, ∀ (S : MS) (H : Heap) (locs : List Loc) (ls : Array Slot) (l2 : Int32) (l3 : Int32), fr_records_14_b18 k6 n S l2 l3 = some S1 → mG D cI cJ cZ ad A H0 H locs S → lv_has ls 4 [(0, .ref (ad 0)), (1, .ref (ad 14)), (2, .int l2), (3, .int l3)] → W p l e { frames := 6, cells := 0, slots := 0, locals := 146 } s m args below meth c H locs 0 0 Q (F0 m 18 ls []) := by
  have hx := E.1
  have hb := E.2.1
  have hts := E.2.2.1
  have hown := E.2.2.2.1
  have hK := E.2.2.2.2.1
  intro n
  induction n with
  | zero =>
    intro S H locs ls l2 l3 h
    have h : (none : Option (MS)) = some S1 := h
    cases h
  | succ n ih =>
    intro S H locs ls l2 l3 h G hl
    unfold fr_records_14_b18 at h
    refine lv_iload_n hx hb dX12_records_18 rfl (lv_at hl 3 rfl) ?_
    refine lv_aload_n hx hb dX12_records_19 rfl (lv_at hl 0 rfl) ?_
    refine m_get E G 10 (v := .ref (ad 10)) (by decide) (.tail _ qM_7) rfl dX12_records_20 rfl ?_
    refine lv_iconst (v := 2) hx hb dX12_records_23 (by decide) ?_
    refine m_iald E G 10 2 (n := 131) (k := 2) rfl rfl (by decide) (by decide) dX12_records_24 ?_
    refine lv_topi (fun v2 ev2 => ?_)
    have h := elet_at ev2 h
    clear ev2
    refine lv_icmp_ge (tgt := 47) hx hb dX12_records_25 (by decide) (fun c3 => ?_) (fun c3 => ?_)
    · have h := oif_pos c3 h
      refine lv_iconst (v := 0) hx hb dX12_records_47 (by decide) ?_
      refine lv_istore_n (lv' := [(3, .int 0), (0, .ref (ad 0)), (1, .ref (ad 14)), (2, .int l2)]) hx hb dX12_records_48 rfl hl (by decide) rfl (fun ls hl => ?_)
      have hl := lv_sub hl [1, 2, 3, 0] rfl
      exact tr_records_14_b49 E hA hR hml kr92 hk6 _ _ _ _ _ _ _ h G hl
    · have h := oif_neg c3 h
      refine lv_aload_n hx hb dX12_records_28 rfl (lv_at hl 0 rfl) ?_
      refine m_get E G 23 (v := .ref (ad 23)) (by decide) (.tail _ qM_18) rfl dX12_records_29 rfl ?_
      refine lv_iload_n hx hb dX12_records_32 rfl (lv_at hl 3 rfl) ?_
      refine lv_aload_n hx hb dX12_records_33 rfl (lv_at hl 0 rfl) ?_
      refine lv_aload_n hx hb dX12_records_34 rfl (lv_at hl 1 rfl) ?_
      refine lv_iload_n hx hb dX12_records_35 rfl (lv_at hl 2 rfl) ?_
      refine lv_iload_n hx hb dX12_records_36 rfl (lv_at hl 3 rfl) ?_
      obtain ⟨r7, S4, eS4, h⟩ := obind2_some h
      refine m_calli (As := [.ref (ad 14), .int l2, .int l3]) (rest := [.int l3, .ref (ad 23)]) E G hA hR hml (tr_rawAt_14 l D cI cJ cZ ad S l2 l3 eS4) (cwV 3 hts (gmV qM_224 qM_225 qM_226 qM_35 qM_227) rfl rfl rfl (by decide +kernel) ⟨Nat.le_of_ble_eq_true rfl, Nat.le_of_ble_eq_true rfl⟩) rfl hl.1 rfl (lv_room (Nat.le_of_ble_eq_true rfl)) dX12_records_37 ⟨Nat.zero_le _, Nat.zero_le _⟩ (fun q5 S6 H locs hq G => ?_)
      obtain ⟨hq1, hq2⟩ := hq
      rw [hq2] at G
      refine lv_to hq1 ?_
      clear hq1 hq2 eS4
      obtain ⟨g8, h⟩ := oif_some h
      refine m_iast E G 23 11 (k := l3.toNatClampNeg) (v := r7) rfl (fun _ => rfl) (inb_k g8).1 (inb_k g8).2 (by decide) dX12_records_40 (fun H locs G => ?_)
      obtain ⟨S9, eS9, h⟩ := elet_some h
      rw [← eS9] at G
      clear eS9
      obtain ⟨v10, ev10, h⟩ := elet_some h
      refine lv_iinc (v := v10) (lv' := [(3, .int v10), (0, .ref (ad 0)), (1, .ref (ad 14)), (2, .int l2)]) hx hb dX12_records_41 hl (k := 3) rfl ev10.symm (by decide) rfl (fun ls hl => ?_)
      refine lv_goto (tgt := 18) hx hb dX12_records_44 (by decide) ?_
      have hl := lv_sub hl [1, 2, 3, 0] rfl
      exact ih _ _ _ _ _ _ h G hl
def fr_records_14_b6  : Nat → MS → Int32 → Option (MS)
  | 0, _, _ => none
  | n + 1, S, l2 => elet (S.2.1 10 4) fun v2 => if v2 ≤ l2 then (some S) else (fr_records_14_b18 (fr_records_14_b6 n) 16384 S l2 0)
set_option maxHeartbeats 4000000 in
set_option maxRecDepth 100000 in
theorem tr_records_14_b6 {p : Program} {l : Launch} {e : Env} {s : State} {m : MethodId} {args : Array Value} {below : List Frame} {meth : Method} {c : Code} {Q : State → Prop} {D : va_G} {A : Nat → Prop} {H0 : Heap} {cI cJ cZ : ClassId} {ad : Nat → Nat} {S1 : MS} (E : mE p c cX12_records s m args (Cond.code yX12_records cX12_records 4 none :: wsM) D cI cJ cZ) (hA : ∀ q : Nat, H0.size ≤ q → A q) (hR : sR s) (hml : c.maxLocals = 4) (kr92 : ∀ (H : Heap) (locs : List Loc) (ls : Array Slot), mG D cI cJ cZ ad A H0 H locs S1 → W p l e { frames := 6, cells := 0, slots := 0, locals := 146 } s m args below meth c H locs 0 0 Q (F0 m 92 ls [])) : ∀ n : Nat, ∀ (S : MS) (H : Heap) (locs : List Loc) (ls : Array Slot) (l2 : Int32), fr_records_14_b6 n S l2 = some S1 → mG D cI cJ cZ ad A H0 H locs S → lv_has ls 4 [(0, .ref (ad 0)), (1, .ref (ad 14)), (2, .int l2)] → W p l e { frames := 6, cells := 0, slots := 0, locals := 146 } s m args below meth c H locs 0 0 Q (F0 m 6 ls []) := by
  have hx := E.1
  have hb := E.2.1
  have hts := E.2.2.1
  have hown := E.2.2.2.1
  have hK := E.2.2.2.2.1
  intro n
  induction n with
  | zero =>
    intro S H locs ls l2 h
    have h : (none : Option (MS)) = some S1 := h
    cases h
  | succ n ih =>
    intro S H locs ls l2 h G hl
    unfold fr_records_14_b6 at h
    refine lv_iload_n hx hb dX12_records_6 rfl (lv_at hl 2 rfl) ?_
    refine lv_aload_n hx hb dX12_records_7 rfl (lv_at hl 0 rfl) ?_
    refine m_get E G 10 (v := .ref (ad 10)) (by decide) (.tail _ qM_7) rfl dX12_records_8 rfl ?_
    refine lv_iconst (v := 4) hx hb dX12_records_11 (by decide) ?_
    refine m_iald E G 10 2 (n := 131) (k := 4) rfl rfl (by decide) (by decide) dX12_records_12 ?_
    refine lv_topi (fun v2 ev2 => ?_)
    have h := elet_at ev2 h
    clear ev2
    refine lv_icmp_ge (tgt := 92) hx hb dX12_records_13 (by decide) (fun c3 => ?_) (fun c3 => ?_)
    · have h := oif_pos c3 h
      rw [osome1 h] at G
      exact kr92 _ _ _ G
    · have h := oif_neg c3 h
      refine lv_iconst (v := 0) hx hb dX12_records_16 (by decide) ?_
      refine lv_istore_n (lv' := [(3, .int 0), (0, .ref (ad 0)), (1, .ref (ad 14)), (2, .int l2)]) hx hb dX12_records_17 rfl hl (by decide) rfl (fun ls hl => ?_)
      have hl := lv_sub hl [1, 2, 3, 0] rfl
      exact tr_records_14_b18 E hA hR hml kr92 ih _ _ _ _ _ _ _ h G hl
def fr_records_14 (S : MS)  : Option (MS) := elet (mf S 14 (upd (S.2.1 14) 0 0)) fun S2 => fr_records_14_b6 16384 S2 0
set_option maxHeartbeats 4000000 in
set_option maxRecDepth 100000 in
theorem tr_records_14 (l : Launch) (D : va_G) (cI cJ cZ : ClassId) (ad : Nat → Nat) (S : MS)  {S1 : MS} (h : fr_records_14 S = some S1) : mCv l yX12_records (Cond.code yX12_records cX12_records 4 none :: wsM) 6 146 D cI cJ cZ ad S [.ref (ad 14)] (fun S9 => S9 = S1) := by
  intro sz
  refine Met.ofW (cc := cX12_records) (maxL := 4) (ret := none) (by decide) rfl ?_
  intro p e s m args below meth c s₁ B hml hv
  obtain ⟨rfl, hsz, hP, hK, hD0, hR⟩ := hv
  have hx := B.exec
  have hb := B.bytes
  have hr := B.returns
  have hts := atoms_spec (ws := (Cond.code yX12_records cX12_records 4 none :: wsM)) B.pre
  have hown : s.vm.findClass RX12 = some m.cls := findClass_of_methodNamed B.named
  have hlocks := B.notSynchronized
  subst hsz
  have hD := hD0.self (sz := s.heap.size)
  generalize hAe : va_A (MW cI cJ cZ ad S) s.heap.size = A at hD ⊢
  have hA : ∀ q : Nat, s.heap.size ≤ q → A q := fun q h => by rw [← hAe]; exact Or.inr h
  have G : mG D cI cJ cZ ad A s.heap s.heap [] S := ⟨hP, hD, va_S.rf⟩
  have E : mE p c cX12_records s m ([.ref (ad 0), .ref (ad 14)] : List Value).toArray (Cond.code yX12_records cX12_records 4 none :: wsM) D cI cJ cZ := ⟨hx, hb, hts, hown, hK, fun w h => .tail _ (iM_x h)⟩
  have hl := lv_entry ([.ref (ad 0), .ref (ad 14)]) (n := 4) (Nat.le_of_ble_eq_true rfl)
  rw [lg_entry_eq]
  generalize (lg_sl ([.ref (ad 0), .ref (ad 14)]) ++ List.replicate (4 - (lg_sl ([.ref (ad 0), .ref (ad 14)])).length) Slot.unset).toArray = ls at hl ⊢
  have hl : lv_has ls 4 [(0, .ref (ad 0)), (1, .ref (ad 14))] := hl
  unfold fr_records_14 at h
  refine lv_aload_n hx hb dX12_records_0 rfl (lv_at hl 1 rfl) ?_
  refine lv_iconst (v := 0) hx hb dX12_records_1 (by decide) ?_
  refine lv_iconst (v := 0) hx hb dX12_records_2 (by decide) ?_
  refine m_iast E G 14 6 (k := 0) (v := 0) rfl (fun _ => rfl) rfl (by decide) (by decide) dX12_records_3 (fun H locs G => ?_)
  obtain ⟨S2, eS2, h⟩ := elet_some h
  rw [← eS2] at G
  clear eS2
  refine lv_iconst (v := 0) hx hb dX12_records_4 (by decide) ?_
  refine lv_istore_n (lv' := [(2, .int 0), (0, .ref (ad 0)), (1, .ref (ad 14))]) hx hb dX12_records_5 rfl hl (by decide) rfl (fun ls hl => ?_)
  have hl := lv_sub hl [1, 2, 0] rfl
  exact tr_records_14_b6 E hA hR hml (fun H locs ls G => W.vret hx hb hr (fun t ht hW => ⟨⟨S1, rfl, rfl, ⟨by rw [ht]; exact G.1, va_K.moved hW.alike hK, G.2.1⟩⟩, G.2.2.F ht⟩) G.2.2.2.2 dX12_records_92) _ _ _ _ _ _ h G hl
def fr_recordsPoint_14 (S : MS) (a1 : Int32) (a2 : Int32) : Option (MS) := elet (mi S 21 a1) fun S2 => elet (mi S2 22 a2) fun S3 => obind (fr_records_14 S3) fun S4 => elet (mi S4 21 (-1)) fun S7 => some S7
set_option maxHeartbeats 4000000 in
set_option maxRecDepth 100000 in
theorem tr_recordsPoint_14 (l : Launch) (D : va_G) (cI cJ cZ : ClassId) (ad : Nat → Nat) (S : MS) (a1 : Int32) (a2 : Int32) {S1 : MS} (h : fr_recordsPoint_14 S a1 a2 = some S1) : mCv l yX12_recordsPoint (Cond.code yX12_recordsPoint cX12_recordsPoint 4 none :: wsM) 7 169 D cI cJ cZ ad S [.ref (ad 14), .int a1, .int a2] (fun S9 => S9 = S1) := by
  intro sz
  refine Met.ofW (cc := cX12_recordsPoint) (maxL := 4) (ret := none) (by decide) rfl ?_
  intro p e s m args below meth c s₁ B hml hv
  obtain ⟨rfl, hsz, hP, hK, hD0, hR⟩ := hv
  have hx := B.exec
  have hb := B.bytes
  have hr := B.returns
  have hts := atoms_spec (ws := (Cond.code yX12_recordsPoint cX12_recordsPoint 4 none :: wsM)) B.pre
  have hown : s.vm.findClass RX12 = some m.cls := findClass_of_methodNamed B.named
  have hlocks := B.notSynchronized
  subst hsz
  have hD := hD0.self (sz := s.heap.size)
  generalize hAe : va_A (MW cI cJ cZ ad S) s.heap.size = A at hD ⊢
  have hA : ∀ q : Nat, s.heap.size ≤ q → A q := fun q h => by rw [← hAe]; exact Or.inr h
  have G : mG D cI cJ cZ ad A s.heap s.heap [] S := ⟨hP, hD, va_S.rf⟩
  have E : mE p c cX12_recordsPoint s m ([.ref (ad 0), .ref (ad 14), .int a1, .int a2] : List Value).toArray (Cond.code yX12_recordsPoint cX12_recordsPoint 4 none :: wsM) D cI cJ cZ := ⟨hx, hb, hts, hown, hK, fun w h => .tail _ (iM_x h)⟩
  have hl := lv_entry ([.ref (ad 0), .ref (ad 14), .int a1, .int a2]) (n := 4) (Nat.le_of_ble_eq_true rfl)
  rw [lg_entry_eq]
  generalize (lg_sl ([.ref (ad 0), .ref (ad 14), .int a1, .int a2]) ++ List.replicate (4 - (lg_sl ([.ref (ad 0), .ref (ad 14), .int a1, .int a2])).length) Slot.unset).toArray = ls at hl ⊢
  have hl : lv_has ls 4 [(0, .ref (ad 0)), (1, .ref (ad 14)), (2, .int a1), (3, .int a2)] := hl
  unfold fr_recordsPoint_14 at h
  refine lv_aload_n hx hb dX12_recordsPoint_0 rfl (lv_at hl 0 rfl) ?_
  refine lv_iload_n hx hb dX12_recordsPoint_1 rfl (lv_at hl 2 rfl) ?_
  refine m_put E G 21 (by decide) (.tail _ qM_17) (mw_i21 _ _ _ _ _ a1) dX12_recordsPoint_2 ⟨rfl, rfl, rfl⟩ rfl rfl (fun H locs G => ?_)
  obtain ⟨S2, eS2, h⟩ := elet_some h
  rw [← eS2] at G
  clear eS2
  refine lv_aload_n hx hb dX12_recordsPoint_5 rfl (lv_at hl 0 rfl) ?_
  refine lv_iload_n hx hb dX12_recordsPoint_6 rfl (lv_at hl 3 rfl) ?_
  refine m_put E G 22 (by decide) (.tail _ qM_240) (mw_i22 _ _ _ _ _ a2) dX12_recordsPoint_7 ⟨rfl, rfl, rfl⟩ rfl rfl (fun H locs G => ?_)
  obtain ⟨S3, eS3, h⟩ := elet_some h
  rw [← eS3] at G
  clear eS3
  refine lv_aload_n hx hb dX12_recordsPoint_10 rfl (lv_at hl 0 rfl) ?_
  refine lv_aload_n hx hb dX12_recordsPoint_11 rfl (lv_at hl 1 rfl) ?_
  obtain ⟨S4, eS4, h⟩ := obind_some h
  refine m_callv (As := [.ref (ad 14)]) (rest := []) E G hA hR hml (tr_records_14 l D cI cJ cZ ad S3 eS4) (cwV 1 hts (gmV qM_220 qM_221 qM_222 qM_35 qM_223) rfl rfl rfl (by decide +kernel) ⟨Nat.le_of_ble_eq_true rfl, Nat.le_of_ble_eq_true rfl⟩) rfl hl.1 rfl (lv_room (Nat.le_of_ble_eq_true rfl)) dX12_recordsPoint_12 ⟨Nat.zero_le _, Nat.zero_le _⟩ (fun S6 H locs hq G => ?_)
  rw [hq] at G
  clear hq eS4
  refine lv_aload_n hx hb dX12_recordsPoint_15 rfl (lv_at hl 0 rfl) ?_
  refine lv_iconst (v := (-1)) hx hb dX12_recordsPoint_16 (by decide) ?_
  refine m_put E G 21 (by decide) (.tail _ qM_17) (mw_i21 _ _ _ _ _ (-1)) dX12_recordsPoint_17 ⟨rfl, rfl, rfl⟩ rfl rfl (fun H locs G => ?_)
  obtain ⟨S7, eS7, h⟩ := elet_some h
  rw [← eS7] at G
  clear eS7
  exact W.vret hx hb hr (fun t ht hW => ⟨⟨S7, rfl, osome1 h, ⟨by rw [ht]; exact G.1, va_K.moved hW.alike hK, G.2.1⟩⟩, G.2.2.F ht⟩) G.2.2.2.2 dX12_recordsPoint_20
def fr_hears_14_b13  (S : MS) (s0 : Int32) : Option (Int32 × MS) := oif (s0 = 0 ∨ s0 = 1) <| some (s0, S)
set_option maxHeartbeats 4000000 in
set_option maxRecDepth 100000 in
theorem tr_hears_14_b13 {p : Program} {l : Launch} {e : Env} {s : State} {m : MethodId} {args : Array Value} {below : List Frame} {meth : Method} {c : Code} {Q : State → Prop} {D : va_G} {A : Nat → Prop} {H0 : Heap} {cI cJ cZ : ClassId} {ad : Nat → Nat} {r1 : Int32} {S1 : MS} (E : mE p c cX12_hears s m args (Cond.code yX12_hears cX12_hears 3 (some .boolean) :: wsM) D cI cJ cZ) (hA : ∀ q : Nat, H0.size ≤ q → A q) (hR : sR s) (hml : c.maxLocals = 3) (kr13 : ∀ (H : Heap) (locs : List Loc) (ls : Array Slot), (r1 = 0 ∨ r1 = 1) → mG D cI cJ cZ ad A H0 H locs S1 → W p l e { frames := 1, cells := 0, slots := 0, locals := 0 } s m args below meth c H locs 0 0 Q (F0 m 13 ls [.int r1])) : ∀ (S : MS) (H : Heap) (locs : List Loc) (ls : Array Slot) (s0 : Int32), fr_hears_14_b13 S s0 = some (r1, S1) → mG D cI cJ cZ ad A H0 H locs S → lv_has ls 3 [] → W p l e { frames := 1, cells := 0, slots := 0, locals := 0 } s m args below meth c H locs 0 0 Q (F0 m 13 ls [.int s0]) := by
  have hx := E.1
  have hb := E.2.1
  have hts := E.2.2.1
  have hown := E.2.2.2.1
  have hK := E.2.2.2.2.1
  intro S H locs ls s0 h G hl
  unfold fr_hears_14_b13 at h
  obtain ⟨gz, h⟩ := oif_some h
  have gr : r1 = 0 ∨ r1 = 1 := by rw [← (osome2 h).1]; exact gz
  rw [(osome2 h).2] at G
  refine lv_to (osome2 h).1 ?_
  exact kr13 _ _ _ gr G
def fr_hears_14 (S : MS) (a1 : Int32) : Option (Int32 × MS) := elet (1 + a1) fun v2 => oif (inb v2 2455 = true) <| elet (S.2.1 14 v2.toNatClampNeg) fun v4 => if v4 = 0 then (fr_hears_14_b13 S 1) else (fr_hears_14_b13 S 0)
set_option maxHeartbeats 4000000 in
set_option maxRecDepth 100000 in
theorem tr_hears_14 (l : Launch) (D : va_G) (cI cJ cZ : ClassId) (ad : Nat → Nat) (S : MS) (a1 : Int32) {r1 : Int32} {S1 : MS} (h : fr_hears_14 S a1 = some (r1, S1)) : mCi l yX12_hears (Cond.code yX12_hears cX12_hears 3 (some .boolean) :: wsM) 1 0 D cI cJ cZ ad S [.ref (ad 14), .int a1] (fun r S9 => r = r1 ∧ S9 = S1) := by
  intro sz
  refine Met.ofW (cc := cX12_hears) (maxL := 3) (ret := (some .boolean)) (by decide) rfl ?_
  intro p e s m args below meth c s₁ B hml hv
  obtain ⟨rfl, hsz, hP, hK, hD0, hR⟩ := hv
  have hx := B.exec
  have hb := B.bytes
  have hr := B.returns
  have hts := atoms_spec (ws := (Cond.code yX12_hears cX12_hears 3 (some .boolean) :: wsM)) B.pre
  have hown : s.vm.findClass RX12 = some m.cls := findClass_of_methodNamed B.named
  have hlocks := B.notSynchronized
  subst hsz
  have hD := hD0.self (sz := s.heap.size)
  generalize hAe : va_A (MW cI cJ cZ ad S) s.heap.size = A at hD ⊢
  have hA : ∀ q : Nat, s.heap.size ≤ q → A q := fun q h => by rw [← hAe]; exact Or.inr h
  have G : mG D cI cJ cZ ad A s.heap s.heap [] S := ⟨hP, hD, va_S.rf⟩
  have E : mE p c cX12_hears s m ([.ref (ad 0), .ref (ad 14), .int a1] : List Value).toArray (Cond.code yX12_hears cX12_hears 3 (some .boolean) :: wsM) D cI cJ cZ := ⟨hx, hb, hts, hown, hK, fun w h => .tail _ (iM_x h)⟩
  have hl := lv_entry ([.ref (ad 0), .ref (ad 14), .int a1]) (n := 3) (Nat.le_of_ble_eq_true rfl)
  rw [lg_entry_eq]
  generalize (lg_sl ([.ref (ad 0), .ref (ad 14), .int a1]) ++ List.replicate (3 - (lg_sl ([.ref (ad 0), .ref (ad 14), .int a1])).length) Slot.unset).toArray = ls at hl ⊢
  have hl : lv_has ls 3 [(0, .ref (ad 0)), (1, .ref (ad 14)), (2, .int a1)] := hl
  unfold fr_hears_14 at h
  refine lv_aload_n hx hb dX12_hears_0 rfl (lv_at hl 1 rfl) ?_
  refine lv_iconst (v := 1) hx hb dX12_hears_1 (by decide) ?_
  refine lv_iload_n hx hb dX12_hears_2 rfl (lv_at hl 2 rfl) ?_
  refine lv_iadd hx hb dX12_hears_3 ?_
  refine lv_topi (fun v2 ev2 => ?_)
  have h := elet_at ev2 h
  clear ev2
  obtain ⟨g3, h⟩ := oif_some h
  refine m_iald E G 14 6 (n := 2455) (k := v2.toNatClampNeg) rfl (inb_k g3).1 (inb_k g3).2 (by decide) dX12_hears_4 ?_
  refine lv_topi (fun v4 ev4 => ?_)
  have h := elet_at ev4 h
  clear ev4
  refine lv_if_ne (tgt := 12) hx hb dX12_hears_5 (by decide) (fun c5 => ?_) (fun c5 => ?_)
  · have h := oif_neg c5 h
    refine lv_iconst (v := 0) hx hb dX12_hears_12 (by decide) ?_
    have hl := lv_sub hl [] rfl
    exact tr_hears_14_b13 E hA hR hml (fun H locs ls gz G => W.zret (v := r1) hx hb hr (nar01 gz) (fun t ht hW => ⟨⟨r1, S1, rfl, ⟨rfl, rfl⟩, ⟨by rw [ht]; exact G.1, va_K.moved hW.alike hK, G.2.1⟩⟩, G.2.2.F ht⟩) G.2.2.2.2 dX12_hears_13) _ _ _ _ _ h G hl
  · have h := oif_pos c5 h
    refine lv_iconst (v := 1) hx hb dX12_hears_8 (by decide) ?_
    refine lv_goto (tgt := 13) hx hb dX12_hears_9 (by decide) ?_
    have hl := lv_sub hl [] rfl
    exact tr_hears_14_b13 E hA hR hml (fun H locs ls gz G => W.zret (v := r1) hx hb hr (nar01 gz) (fun t ht hW => ⟨⟨r1, S1, rfl, ⟨rfl, rfl⟩, ⟨by rw [ht]; exact G.1, va_K.moved hW.alike hK, G.2.1⟩⟩, G.2.2.F ht⟩) G.2.2.2.2 dX12_hears_13) _ _ _ _ _ h G hl
def fr_windowOf_14_b37 (k4 : MS → Int32 → Int32 → Option (Int32 × MS)) (S : MS) (s0 : Int32) (l3 : Int32) : Option (Int32 × MS) := elet (l3 + Int32.ofInt (1)) fun v2 => k4 S s0 v2
set_option maxHeartbeats 4000000 in
set_option maxRecDepth 100000 in
theorem tr_windowOf_14_b37 {p : Program} {l : Launch} {e : Env} {s : State} {m : MethodId} {args : Array Value} {below : List Frame} {meth : Method} {c : Code} {Q : State → Prop} {D : va_G} {A : Nat → Prop} {H0 : Heap} {cI cJ cZ : ClassId} {ad : Nat → Nat} {r1 : Int32} {S1 : MS} (E : mE p c cX12_windowOf s m args (Cond.code yX12_windowOf cX12_windowOf 4 (some .int) :: wsM) D cI cJ cZ) (hA : ∀ q : Nat, H0.size ≤ q → A q) (hR : sR s) (hml : c.maxLocals = 4) (kr56 : ∀ (H : Heap) (locs : List Loc) (ls : Array Slot), mG D cI cJ cZ ad A H0 H locs S1 → W p l e { frames := 2, cells := 0, slots := 0, locals := 22 } s m args below meth c H locs 0 0 Q (F0 m 56 ls [.int r1])) {k4 : MS → Int32 → Int32 → Option (Int32 × MS)} (hk4 : ∀ (S : MS) (H : Heap) (locs : List Loc) (ls : Array Slot) (l2 : Int32) (l3 : Int32), k4 S l2 l3 = some (r1, S1) → mG D cI cJ cZ ad A H0 H locs S → lv_has ls 4 [(0, .ref (ad 0)), (1, .ref (ad 14)), (2, .int l2), (3, .int l3)] → W p l e { frames := 2, cells := 0, slots := 0, locals := 22 } s m args below meth c H locs 0 0 Q (F0 m 4 ls [])) : ∀ (S : MS) (H : Heap) (locs : List Loc) (ls : Array Slot) (s0 : Int32) (l3 : Int32), fr_windowOf_14_b37 k4 S s0 l3 = some (r1, S1) → mG D cI cJ cZ ad A H0 H locs S → lv_has ls 4 [(0, .ref (ad 0)), (1, .ref (ad 14)), (3, .int l3)] → W p l e { frames := 2, cells := 0, slots := 0, locals := 22 } s m args below meth c H locs 0 0 Q (F0 m 37 ls [.int s0]) := by
  have hx := E.1
  have hb := E.2.1
  have hts := E.2.2.1
  have hown := E.2.2.2.1
  have hK := E.2.2.2.2.1
  intro S H locs ls s0 l3 h G hl
  unfold fr_windowOf_14_b37 at h
  refine lv_istore_n (lv' := [(2, .int s0), (0, .ref (ad 0)), (1, .ref (ad 14)), (3, .int l3)]) hx hb dX12_windowOf_37 rfl hl (by decide) rfl (fun ls hl => ?_)
  obtain ⟨v2, ev2, h⟩ := elet_some h
  refine lv_iinc (v := v2) (lv' := [(3, .int v2), (2, .int s0), (0, .ref (ad 0)), (1, .ref (ad 14))]) hx hb dX12_windowOf_38 hl (k := 3) rfl ev2.symm (by decide) rfl (fun ls hl => ?_)
  refine lv_goto (tgt := 4) hx hb dX12_windowOf_41 (by decide) ?_
  have hl := lv_sub hl [2, 3, 1, 0] rfl
  exact hk4 _ _ _ _ _ _ h G hl
def fr_windowOf_14_b4  : Nat → MS → Int32 → Int32 → Option (Int32 × MS)
  | 0, _, _, _ => none
  | n + 1, S, l2, l3 => elet (S.2.1 10 4) fun v2 => if v2 ≤ l3 then (elet (S.2.1 10 2) fun v4 => elet (v4 - l2) fun v5 => elet (if 0 < v5 then v5 else 0) fun v6 => some (v6, S)) else (obind2 (fr_hears_14 S l3) fun r10 S7 => if r10 = 0 then (fr_windowOf_14_b37 (fr_windowOf_14_b4 n) S7 l2 l3) else (oif (inb l3 12 = true) <| elet (S7.2.1 24 l3.toNatClampNeg) fun v13 => elet (if l2 < v13 then v13 else l2) fun v14 => fr_windowOf_14_b37 (fr_windowOf_14_b4 n) S7 v14 l3))
set_option maxHeartbeats 4000000 in
set_option maxRecDepth 100000 in
theorem tr_windowOf_14_b4 {p : Program} {l : Launch} {e : Env} {s : State} {m : MethodId} {args : Array Value} {below : List Frame} {meth : Method} {c : Code} {Q : State → Prop} {D : va_G} {A : Nat → Prop} {H0 : Heap} {cI cJ cZ : ClassId} {ad : Nat → Nat} {r1 : Int32} {S1 : MS} (E : mE p c cX12_windowOf s m args (Cond.code yX12_windowOf cX12_windowOf 4 (some .int) :: wsM) D cI cJ cZ) (hA : ∀ q : Nat, H0.size ≤ q → A q) (hR : sR s) (hml : c.maxLocals = 4) (kr56 : ∀ (H : Heap) (locs : List Loc) (ls : Array Slot), mG D cI cJ cZ ad A H0 H locs S1 → W p l e { frames := 2, cells := 0, slots := 0, locals := 22 } s m args below meth c H locs 0 0 Q (F0 m 56 ls [.int r1])) : ∀ n : Nat, ∀ (S : MS) (H : Heap) (locs : List Loc) (ls : Array Slot) (l2 : Int32) (l3 : Int32), fr_windowOf_14_b4 n S l2 l3 = some (r1, S1) → mG D cI cJ cZ ad A H0 H locs S → lv_has ls 4 [(0, .ref (ad 0)), (1, .ref (ad 14)), (2, .int l2), (3, .int l3)] → W p l e { frames := 2, cells := 0, slots := 0, locals := 22 } s m args below meth c H locs 0 0 Q (F0 m 4 ls []) := by
  have hx := E.1
  have hb := E.2.1
  have hts := E.2.2.1
  have hown := E.2.2.2.1
  have hK := E.2.2.2.2.1
  intro n
  induction n with
  | zero =>
    intro S H locs ls l2 l3 h
    have h : (none : Option (Int32 × MS)) = some (r1, S1) := h
    cases h
  | succ n ih =>
    intro S H locs ls l2 l3 h G hl
    unfold fr_windowOf_14_b4 at h
    refine lv_iload_n hx hb dX12_windowOf_4 rfl (lv_at hl 3 rfl) ?_
    refine lv_aload_n hx hb dX12_windowOf_5 rfl (lv_at hl 0 rfl) ?_
    refine m_get E G 10 (v := .ref (ad 10)) (by decide) (.tail _ qM_7) rfl dX12_windowOf_6 rfl ?_
    refine lv_iconst (v := 4) hx hb dX12_windowOf_9 (by decide) ?_
    refine m_iald E G 10 2 (n := 131) (k := 4) rfl rfl (by decide) (by decide) dX12_windowOf_10 ?_
    refine lv_topi (fun v2 ev2 => ?_)
    have h := elet_at ev2 h
    clear ev2
    refine lv_icmp_ge (tgt := 44) hx hb dX12_windowOf_11 (by decide) (fun c3 => ?_) (fun c3 => ?_)
    · have h := oif_pos c3 h
      refine lv_iconst (v := 0) hx hb dX12_windowOf_44 (by decide) ?_
      refine lv_aload_n hx hb dX12_windowOf_45 rfl (lv_at hl 0 rfl) ?_
      refine m_get E G 10 (v := .ref (ad 10)) (by decide) (.tail _ qM_7) rfl dX12_windowOf_46 rfl ?_
      refine lv_iconst (v := 2) hx hb dX12_windowOf_49 (by decide) ?_
      refine m_iald E G 10 2 (n := 131) (k := 2) rfl rfl (by decide) (by decide) dX12_windowOf_50 ?_
      refine lv_topi (fun v4 ev4 => ?_)
      have h := elet_at ev4 h
      clear ev4
      refine lv_iload_n hx hb dX12_windowOf_51 rfl (lv_at hl 2 rfl) ?_
      refine lv_isub hx hb dX12_windowOf_52 ?_
      refine lv_topi (fun v5 ev5 => ?_)
      have h := elet_at ev5 h
      clear ev5
      refine va_mmax hx hb (hml.trans hl.1.symm) hown (hts _ (.tail _ qM_265)) (hts _ (.tail _ qM_266)) (hts _ (.tail _ qM_247)) (hts _ (.tail _ qM_267)) (Nat.le_of_ble_eq_true rfl) (Nat.le_of_ble_eq_true rfl) (Nat.zero_le _) (Nat.zero_le _) dX12_windowOf_53 ?_
      refine lv_topi (fun v6 ev6 => ?_)
      have h := elet_at ev6 h
      clear ev6
      rw [(osome2 h).2] at G
      refine lv_to (osome2 h).1 ?_
      exact kr56 _ _ _ G
    · have h := oif_neg c3 h
      refine lv_aload_n hx hb dX12_windowOf_14 rfl (lv_at hl 0 rfl) ?_
      refine lv_aload_n hx hb dX12_windowOf_15 rfl (lv_at hl 1 rfl) ?_
      refine lv_iload_n hx hb dX12_windowOf_16 rfl (lv_at hl 3 rfl) ?_
      obtain ⟨r10, S7, eS7, h⟩ := obind2_some h
      refine m_calli (As := [.ref (ad 14), .int l3]) (rest := []) E G hA hR hml (tr_hears_14 l D cI cJ cZ ad S l3 eS7) (cwV 2 hts (gmV qM_274 qM_275 qM_276 qM_35 qM_272) rfl rfl rfl (by decide +kernel) ⟨Nat.le_of_ble_eq_true rfl, Nat.le_of_ble_eq_true rfl⟩) rfl hl.1 rfl (lv_room (Nat.le_of_ble_eq_true rfl)) dX12_windowOf_17 ⟨Nat.zero_le _, Nat.zero_le _⟩ (fun q8 S9 H locs hq G => ?_)
      obtain ⟨hq1, hq2⟩ := hq
      rw [hq2] at G
      refine lv_to hq1 ?_
      clear hq1 hq2 eS7
      refine lv_if_eq (tgt := 36) hx hb dX12_windowOf_20 (by decide) (fun c11 => ?_) (fun c11 => ?_)
      · have h := oif_pos c11 h
        refine lv_iload_n hx hb dX12_windowOf_36 rfl (lv_at hl 2 rfl) ?_
        have hl := lv_sub hl [0, 1, 3] rfl
        exact tr_windowOf_14_b37 E hA hR hml kr56 ih _ _ _ _ _ _ h G hl
      · have h := oif_neg c11 h
        refine lv_iload_n hx hb dX12_windowOf_23 rfl (lv_at hl 2 rfl) ?_
        refine lv_aload_n hx hb dX12_windowOf_24 rfl (lv_at hl 0 rfl) ?_
        refine m_get E G 24 (v := .ref (ad 24)) (by decide) (.tail _ qM_19) rfl dX12_windowOf_25 rfl ?_
        refine lv_iload_n hx hb dX12_windowOf_28 rfl (lv_at hl 3 rfl) ?_
        obtain ⟨g12, h⟩ := oif_some h
        refine m_iald E G 24 12 (n := 12) (k := l3.toNatClampNeg) rfl (inb_k g12).1 (inb_k g12).2 (by decide) dX12_windowOf_29 ?_
        refine lv_topi (fun v13 ev13 => ?_)
        have h := elet_at ev13 h
        clear ev13
        refine va_mmax hx hb (hml.trans hl.1.symm) hown (hts _ (.tail _ qM_265)) (hts _ (.tail _ qM_266)) (hts _ (.tail _ qM_247)) (hts _ (.tail _ qM_267)) (Nat.le_of_ble_eq_true rfl) (Nat.le_of_ble_eq_true rfl) (Nat.zero_le _) (Nat.zero_le _) dX12_windowOf_30 ?_
        refine lv_topi (fun v14 ev14 => ?_)
        have h := elet_at ev14 h
        clear ev14
        refine lv_goto (tgt := 37) hx hb dX12_windowOf_33 (by decide) ?_
        have hl := lv_sub hl [0, 1, 3] rfl
        exact tr_windowOf_14_b37 E hA hR hml kr56 ih _ _ _ _ _ _ h G hl
def fr_windowOf_14 (S : MS)  : Option (Int32 × MS) := fr_windowOf_14_b4 16384 S 0 0
set_option maxHeartbeats 4000000 in
set_option maxRecDepth 100000 in
theorem tr_windowOf_14 (l : Launch) (D : va_G) (cI cJ cZ : ClassId) (ad : Nat → Nat) (S : MS)  {r1 : Int32} {S1 : MS} (h : fr_windowOf_14 S = some (r1, S1)) : mCi l yX12_windowOf (Cond.code yX12_windowOf cX12_windowOf 4 (some .int) :: wsM) 2 22 D cI cJ cZ ad S [.ref (ad 14)] (fun r S9 => r = r1 ∧ S9 = S1) := by
  intro sz
  refine Met.ofW (cc := cX12_windowOf) (maxL := 4) (ret := (some .int)) (by decide) rfl ?_
  intro p e s m args below meth c s₁ B hml hv
  obtain ⟨rfl, hsz, hP, hK, hD0, hR⟩ := hv
  have hx := B.exec
  have hb := B.bytes
  have hr := B.returns
  have hts := atoms_spec (ws := (Cond.code yX12_windowOf cX12_windowOf 4 (some .int) :: wsM)) B.pre
  have hown : s.vm.findClass RX12 = some m.cls := findClass_of_methodNamed B.named
  have hlocks := B.notSynchronized
  subst hsz
  have hD := hD0.self (sz := s.heap.size)
  generalize hAe : va_A (MW cI cJ cZ ad S) s.heap.size = A at hD ⊢
  have hA : ∀ q : Nat, s.heap.size ≤ q → A q := fun q h => by rw [← hAe]; exact Or.inr h
  have G : mG D cI cJ cZ ad A s.heap s.heap [] S := ⟨hP, hD, va_S.rf⟩
  have E : mE p c cX12_windowOf s m ([.ref (ad 0), .ref (ad 14)] : List Value).toArray (Cond.code yX12_windowOf cX12_windowOf 4 (some .int) :: wsM) D cI cJ cZ := ⟨hx, hb, hts, hown, hK, fun w h => .tail _ (iM_x h)⟩
  have hl := lv_entry ([.ref (ad 0), .ref (ad 14)]) (n := 4) (Nat.le_of_ble_eq_true rfl)
  rw [lg_entry_eq]
  generalize (lg_sl ([.ref (ad 0), .ref (ad 14)]) ++ List.replicate (4 - (lg_sl ([.ref (ad 0), .ref (ad 14)])).length) Slot.unset).toArray = ls at hl ⊢
  have hl : lv_has ls 4 [(0, .ref (ad 0)), (1, .ref (ad 14))] := hl
  unfold fr_windowOf_14 at h
  refine lv_iconst (v := 0) hx hb dX12_windowOf_0 (by decide) ?_
  refine lv_istore_n (lv' := [(2, .int 0), (0, .ref (ad 0)), (1, .ref (ad 14))]) hx hb dX12_windowOf_1 rfl hl (by decide) rfl (fun ls hl => ?_)
  refine lv_iconst (v := 0) hx hb dX12_windowOf_2 (by decide) ?_
  refine lv_istore_n (lv' := [(3, .int 0), (2, .int 0), (0, .ref (ad 0)), (1, .ref (ad 14))]) hx hb dX12_windowOf_3 rfl hl (by decide) rfl (fun ls hl => ?_)
  have hl := lv_sub hl [2, 3, 1, 0] rfl
  exact tr_windowOf_14_b4 E hA hR hml (fun H locs ls G => W.iret (v := r1) hx hb hr (fun t ht hW => ⟨⟨r1, S1, rfl, ⟨rfl, rfl⟩, ⟨by rw [ht]; exact G.1, va_K.moved hW.alike hK, G.2.1⟩⟩, G.2.2.F ht⟩) G.2.2.2.2 dX12_windowOf_56) _ _ _ _ _ _ _ h G hl
def fr_beamAt_14_b78 (k5 : MS → Int32 → Int32 → Int32 → Option (Int32 × MS)) (S : MS) (s0 : Int32) (s1 : Int32) (l2 : Int32) (l4 : Int32) : Option (Int32 × MS) := elet (s1 + s0) fun v2 => elet (l4 + Int32.ofInt (1)) fun v3 => k5 S l2 v2 v3
set_option maxHeartbeats 4000000 in
set_option maxRecDepth 100000 in
theorem tr_beamAt_14_b78 {p : Program} {l : Launch} {e : Env} {s : State} {m : MethodId} {args : Array Value} {below : List Frame} {meth : Method} {c : Code} {Q : State → Prop} {D : va_G} {A : Nat → Prop} {H0 : Heap} {cI cJ cZ : ClassId} {ad : Nat → Nat} {r1 : Int32} {S1 : MS} (E : mE p c cX12_beamAt s m args (Cond.code yX12_beamAt cX12_beamAt 5 (some .int) :: wsM) D cI cJ cZ) (hA : ∀ q : Nat, H0.size ≤ q → A q) (hR : sR s) (hml : c.maxLocals = 5) (kr87 : ∀ (H : Heap) (locs : List Loc) (ls : Array Slot), mG D cI cJ cZ ad A H0 H locs S1 → W p l e { frames := 2, cells := 0, slots := 0, locals := 22 } s m args below meth c H locs 0 0 Q (F0 m 87 ls [.int r1])) {k5 : MS → Int32 → Int32 → Int32 → Option (Int32 × MS)} (hk5 : ∀ (S : MS) (H : Heap) (locs : List Loc) (ls : Array Slot) (l2 : Int32) (l3 : Int32) (l4 : Int32), k5 S l2 l3 l4 = some (r1, S1) → mG D cI cJ cZ ad A H0 H locs S → lv_has ls 5 [(0, .ref (ad 0)), (1, .ref (ad 14)), (2, .int l2), (3, .int l3), (4, .int l4)] → W p l e { frames := 2, cells := 0, slots := 0, locals := 22 } s m args below meth c H locs 0 0 Q (F0 m 5 ls [])) : ∀ (S : MS) (H : Heap) (locs : List Loc) (ls : Array Slot) (s0 : Int32) (s1 : Int32) (l2 : Int32) (l4 : Int32), fr_beamAt_14_b78 k5 S s0 s1 l2 l4 = some (r1, S1) → mG D cI cJ cZ ad A H0 H locs S → lv_has ls 5 [(0, .ref (ad 0)), (1, .ref (ad 14)), (2, .int l2), (4, .int l4)] → W p l e { frames := 2, cells := 0, slots := 0, locals := 22 } s m args below meth c H locs 0 0 Q (F0 m 78 ls [.int s0, .int s1]) := by
  have hx := E.1
  have hb := E.2.1
  have hts := E.2.2.1
  have hown := E.2.2.2.1
  have hK := E.2.2.2.2.1
  intro S H locs ls s0 s1 l2 l4 h G hl
  unfold fr_beamAt_14_b78 at h
  refine lv_iadd hx hb dX12_beamAt_78 ?_
  refine lv_topi (fun v2 ev2 => ?_)
  have h := elet_at ev2 h
  clear ev2
  refine lv_istore_n (lv' := [(3, .int v2), (0, .ref (ad 0)), (1, .ref (ad 14)), (2, .int l2), (4, .int l4)]) hx hb dX12_beamAt_79 rfl hl (by decide) rfl (fun ls hl => ?_)
  obtain ⟨v3, ev3, h⟩ := elet_some h
  refine lv_iinc (v := v3) (lv' := [(4, .int v3), (3, .int v2), (0, .ref (ad 0)), (1, .ref (ad 14)), (2, .int l2)]) hx hb dX12_beamAt_80 hl (k := 4) rfl ev3.symm (by decide) rfl (fun ls hl => ?_)
  refine lv_goto (tgt := 5) hx hb dX12_beamAt_83 (by decide) ?_
  have hl := lv_sub hl [2, 3, 4, 1, 0] rfl
  exact hk5 _ _ _ _ _ _ _ h G hl
def fr_beamAt_14_b77 (k5 : MS → Int32 → Int32 → Int32 → Option (Int32 × MS)) (S : MS) (s0 : Int32) (l2 : Int32) (l4 : Int32) : Option (Int32 × MS) := fr_beamAt_14_b78 k5 S 0 s0 l2 l4
set_option maxHeartbeats 4000000 in
set_option maxRecDepth 100000 in
theorem tr_beamAt_14_b77 {p : Program} {l : Launch} {e : Env} {s : State} {m : MethodId} {args : Array Value} {below : List Frame} {meth : Method} {c : Code} {Q : State → Prop} {D : va_G} {A : Nat → Prop} {H0 : Heap} {cI cJ cZ : ClassId} {ad : Nat → Nat} {r1 : Int32} {S1 : MS} (E : mE p c cX12_beamAt s m args (Cond.code yX12_beamAt cX12_beamAt 5 (some .int) :: wsM) D cI cJ cZ) (hA : ∀ q : Nat, H0.size ≤ q → A q) (hR : sR s) (hml : c.maxLocals = 5) (kr87 : ∀ (H : Heap) (locs : List Loc) (ls : Array Slot), mG D cI cJ cZ ad A H0 H locs S1 → W p l e { frames := 2, cells := 0, slots := 0, locals := 22 } s m args below meth c H locs 0 0 Q (F0 m 87 ls [.int r1])) {k5 : MS → Int32 → Int32 → Int32 → Option (Int32 × MS)} (hk5 : ∀ (S : MS) (H : Heap) (locs : List Loc) (ls : Array Slot) (l2 : Int32) (l3 : Int32) (l4 : Int32), k5 S l2 l3 l4 = some (r1, S1) → mG D cI cJ cZ ad A H0 H locs S → lv_has ls 5 [(0, .ref (ad 0)), (1, .ref (ad 14)), (2, .int l2), (3, .int l3), (4, .int l4)] → W p l e { frames := 2, cells := 0, slots := 0, locals := 22 } s m args below meth c H locs 0 0 Q (F0 m 5 ls [])) : ∀ (S : MS) (H : Heap) (locs : List Loc) (ls : Array Slot) (s0 : Int32) (l2 : Int32) (l4 : Int32), fr_beamAt_14_b77 k5 S s0 l2 l4 = some (r1, S1) → mG D cI cJ cZ ad A H0 H locs S → lv_has ls 5 [(0, .ref (ad 0)), (1, .ref (ad 14)), (2, .int l2), (4, .int l4)] → W p l e { frames := 2, cells := 0, slots := 0, locals := 22 } s m args below meth c H locs 0 0 Q (F0 m 77 ls [.int s0]) := by
  have hx := E.1
  have hb := E.2.1
  have hts := E.2.2.1
  have hown := E.2.2.2.1
  have hK := E.2.2.2.2.1
  intro S H locs ls s0 l2 l4 h G hl
  unfold fr_beamAt_14_b77 at h
  refine lv_iconst (v := 0) hx hb dX12_beamAt_77 (by decide) ?_
  have hl := lv_sub hl [0, 1, 2, 3] rfl
  exact tr_beamAt_14_b78 E hA hR hml kr87 hk5 _ _ _ _ _ _ _ _ h G hl
def fr_beamAt_14_b5  : Nat → MS → Int32 → Int32 → Int32 → Option (Int32 × MS)
  | 0, _, _, _, _ => none
  | n + 1, S, l2, l3, l4 => elet (S.2.1 10 4) fun v2 => if v2 ≤ l4 then (some (l3, S)) else (obind2 (fr_hears_14 S l4) fun r7 S4 => if r7 = 0 then (fr_beamAt_14_b77 (fr_beamAt_14_b5 n) S4 l3 l2 l4) else (oif (inb l4 12 = true) <| elet (S4.2.1 24 l4.toNatClampNeg) fun v10 => elet (l2 + v10) fun v11 => elet (S4.2.1 10 2) fun v12 => if v12 ≤ v11 then (fr_beamAt_14_b77 (fr_beamAt_14_b5 n) S4 l3 l2 l4) else (elet (13 + l4) fun v14 => oif (inb v14 2455 = true) <| elet (S4.2.1 14 v14.toNatClampNeg) fun v16 => elet (200 * l4) fun v17 => elet (55 + v17) fun v18 => elet (v18 + l2) fun v19 => oif (inb l4 12 = true) <| elet (S4.2.1 24 l4.toNatClampNeg) fun v21 => elet (v19 + v21) fun v22 => oif (inb v22 2455 = true) <| elet (S4.2.1 14 v22.toNatClampNeg) fun v24 => elet (v16 * v24) fun v25 => fr_beamAt_14_b78 (fr_beamAt_14_b5 n) S4 v25 l3 l2 l4)))
set_option maxHeartbeats 4000000 in
set_option maxRecDepth 100000 in
theorem tr_beamAt_14_b5 {p : Program} {l : Launch} {e : Env} {s : State} {m : MethodId} {args : Array Value} {below : List Frame} {meth : Method} {c : Code} {Q : State → Prop} {D : va_G} {A : Nat → Prop} {H0 : Heap} {cI cJ cZ : ClassId} {ad : Nat → Nat} {r1 : Int32} {S1 : MS} (E : mE p c cX12_beamAt s m args (Cond.code yX12_beamAt cX12_beamAt 5 (some .int) :: wsM) D cI cJ cZ) (hA : ∀ q : Nat, H0.size ≤ q → A q) (hR : sR s) (hml : c.maxLocals = 5) (kr87 : ∀ (H : Heap) (locs : List Loc) (ls : Array Slot), mG D cI cJ cZ ad A H0 H locs S1 → W p l e { frames := 2, cells := 0, slots := 0, locals := 22 } s m args below meth c H locs 0 0 Q (F0 m 87 ls [.int r1])) : ∀ n : Nat, ∀ (S : MS) (H : Heap) (locs : List Loc) (ls : Array Slot) (l2 : Int32) (l3 : Int32) (l4 : Int32), fr_beamAt_14_b5 n S l2 l3 l4 = some (r1, S1) → mG D cI cJ cZ ad A H0 H locs S → lv_has ls 5 [(0, .ref (ad 0)), (1, .ref (ad 14)), (2, .int l2), (3, .int l3), (4, .int l4)] → W p l e { frames := 2, cells := 0, slots := 0, locals := 22 } s m args below meth c H locs 0 0 Q (F0 m 5 ls []) := by
  have hx := E.1
  have hb := E.2.1
  have hts := E.2.2.1
  have hown := E.2.2.2.1
  have hK := E.2.2.2.2.1
  intro n
  induction n with
  | zero =>
    intro S H locs ls l2 l3 l4 h
    have h : (none : Option (Int32 × MS)) = some (r1, S1) := h
    cases h
  | succ n ih =>
    intro S H locs ls l2 l3 l4 h G hl
    unfold fr_beamAt_14_b5 at h
    refine lv_iload hx hb dX12_beamAt_5 (lv_at hl 4 rfl) ?_
    refine lv_aload_n hx hb dX12_beamAt_7 rfl (lv_at hl 0 rfl) ?_
    refine m_get E G 10 (v := .ref (ad 10)) (by decide) (.tail _ qM_7) rfl dX12_beamAt_8 rfl ?_
    refine lv_iconst (v := 4) hx hb dX12_beamAt_11 (by decide) ?_
    refine m_iald E G 10 2 (n := 131) (k := 4) rfl rfl (by decide) (by decide) dX12_beamAt_12 ?_
    refine lv_topi (fun v2 ev2 => ?_)
    have h := elet_at ev2 h
    clear ev2
    refine lv_icmp_ge (tgt := 86) hx hb dX12_beamAt_13 (by decide) (fun c3 => ?_) (fun c3 => ?_)
    · have h := oif_pos c3 h
      refine lv_iload_n hx hb dX12_beamAt_86 rfl (lv_at hl 3 rfl) ?_
      rw [(osome2 h).2] at G
      refine lv_to (osome2 h).1 ?_
      exact kr87 _ _ _ G
    · have h := oif_neg c3 h
      refine lv_iload_n hx hb dX12_beamAt_16 rfl (lv_at hl 3 rfl) ?_
      refine lv_aload_n hx hb dX12_beamAt_17 rfl (lv_at hl 0 rfl) ?_
      refine lv_aload_n hx hb dX12_beamAt_18 rfl (lv_at hl 1 rfl) ?_
      refine lv_iload hx hb dX12_beamAt_19 (lv_at hl 4 rfl) ?_
      obtain ⟨r7, S4, eS4, h⟩ := obind2_some h
      refine m_calli (As := [.ref (ad 14), .int l4]) (rest := [.int l3]) E G hA hR hml (tr_hears_14 l D cI cJ cZ ad S l4 eS4) (cwV 2 hts (gmV qM_274 qM_275 qM_276 qM_35 qM_272) rfl rfl rfl (by decide +kernel) ⟨Nat.le_of_ble_eq_true rfl, Nat.le_of_ble_eq_true rfl⟩) rfl hl.1 rfl (lv_room (Nat.le_of_ble_eq_true rfl)) dX12_beamAt_21 ⟨Nat.zero_le _, Nat.zero_le _⟩ (fun q5 S6 H locs hq G => ?_)
      obtain ⟨hq1, hq2⟩ := hq
      rw [hq2] at G
      refine lv_to hq1 ?_
      clear hq1 hq2 eS4
      refine lv_if_eq (tgt := 77) hx hb dX12_beamAt_24 (by decide) (fun c8 => ?_) (fun c8 => ?_)
      · have h := oif_pos c8 h
        have hl := lv_sub hl [0, 1, 2, 4] rfl
        exact tr_beamAt_14_b77 E hA hR hml kr87 ih _ _ _ _ _ _ _ h G hl
      · have h := oif_neg c8 h
        refine lv_iload_n hx hb dX12_beamAt_27 rfl (lv_at hl 2 rfl) ?_
        refine lv_aload_n hx hb dX12_beamAt_28 rfl (lv_at hl 0 rfl) ?_
        refine m_get E G 24 (v := .ref (ad 24)) (by decide) (.tail _ qM_19) rfl dX12_beamAt_29 rfl ?_
        refine lv_iload hx hb dX12_beamAt_32 (lv_at hl 4 rfl) ?_
        obtain ⟨g9, h⟩ := oif_some h
        refine m_iald E G 24 12 (n := 12) (k := l4.toNatClampNeg) rfl (inb_k g9).1 (inb_k g9).2 (by decide) dX12_beamAt_34 ?_
        refine lv_topi (fun v10 ev10 => ?_)
        have h := elet_at ev10 h
        clear ev10
        refine lv_iadd hx hb dX12_beamAt_35 ?_
        refine lv_topi (fun v11 ev11 => ?_)
        have h := elet_at ev11 h
        clear ev11
        refine lv_aload_n hx hb dX12_beamAt_36 rfl (lv_at hl 0 rfl) ?_
        refine m_get E G 10 (v := .ref (ad 10)) (by decide) (.tail _ qM_7) rfl dX12_beamAt_37 rfl ?_
        refine lv_iconst (v := 2) hx hb dX12_beamAt_40 (by decide) ?_
        refine m_iald E G 10 2 (n := 131) (k := 2) rfl rfl (by decide) (by decide) dX12_beamAt_41 ?_
        refine lv_topi (fun v12 ev12 => ?_)
        have h := elet_at ev12 h
        clear ev12
        refine lv_icmp_ge (tgt := 77) hx hb dX12_beamAt_42 (by decide) (fun c13 => ?_) (fun c13 => ?_)
        · have h := oif_pos c13 h
          have hl := lv_sub hl [0, 1, 2, 4] rfl
          exact tr_beamAt_14_b77 E hA hR hml kr87 ih _ _ _ _ _ _ _ h G hl
        · have h := oif_neg c13 h
          refine lv_aload_n hx hb dX12_beamAt_45 rfl (lv_at hl 1 rfl) ?_
          refine lv_bipush (v := 13) hx hb dX12_beamAt_46 (by decide) ?_
          refine lv_iload hx hb dX12_beamAt_48 (lv_at hl 4 rfl) ?_
          refine lv_iadd hx hb dX12_beamAt_50 ?_
          refine lv_topi (fun v14 ev14 => ?_)
          have h := elet_at ev14 h
          clear ev14
          obtain ⟨g15, h⟩ := oif_some h
          refine m_iald E G 14 6 (n := 2455) (k := v14.toNatClampNeg) rfl (inb_k g15).1 (inb_k g15).2 (by decide) dX12_beamAt_51 ?_
          refine lv_topi (fun v16 ev16 => ?_)
          have h := elet_at ev16 h
          clear ev16
          refine lv_aload_n hx hb dX12_beamAt_52 rfl (lv_at hl 1 rfl) ?_
          refine lv_bipush (v := 55) hx hb dX12_beamAt_53 (by decide) ?_
          refine lv_sipush (v := 200) hx hb dX12_beamAt_55 (by decide) ?_
          refine lv_iload hx hb dX12_beamAt_58 (lv_at hl 4 rfl) ?_
          refine lv_imul hx hb dX12_beamAt_60 ?_
          refine lv_topi (fun v17 ev17 => ?_)
          have h := elet_at ev17 h
          clear ev17
          refine lv_iadd hx hb dX12_beamAt_61 ?_
          refine lv_topi (fun v18 ev18 => ?_)
          have h := elet_at ev18 h
          clear ev18
          refine lv_iload_n hx hb dX12_beamAt_62 rfl (lv_at hl 2 rfl) ?_
          refine lv_iadd hx hb dX12_beamAt_63 ?_
          refine lv_topi (fun v19 ev19 => ?_)
          have h := elet_at ev19 h
          clear ev19
          refine lv_aload_n hx hb dX12_beamAt_64 rfl (lv_at hl 0 rfl) ?_
          refine m_get E G 24 (v := .ref (ad 24)) (by decide) (.tail _ qM_19) rfl dX12_beamAt_65 rfl ?_
          refine lv_iload hx hb dX12_beamAt_68 (lv_at hl 4 rfl) ?_
          obtain ⟨g20, h⟩ := oif_some h
          refine m_iald E G 24 12 (n := 12) (k := l4.toNatClampNeg) rfl (inb_k g20).1 (inb_k g20).2 (by decide) dX12_beamAt_70 ?_
          refine lv_topi (fun v21 ev21 => ?_)
          have h := elet_at ev21 h
          clear ev21
          refine lv_iadd hx hb dX12_beamAt_71 ?_
          refine lv_topi (fun v22 ev22 => ?_)
          have h := elet_at ev22 h
          clear ev22
          obtain ⟨g23, h⟩ := oif_some h
          refine m_iald E G 14 6 (n := 2455) (k := v22.toNatClampNeg) rfl (inb_k g23).1 (inb_k g23).2 (by decide) dX12_beamAt_72 ?_
          refine lv_topi (fun v24 ev24 => ?_)
          have h := elet_at ev24 h
          clear ev24
          refine lv_imul hx hb dX12_beamAt_73 ?_
          refine lv_topi (fun v25 ev25 => ?_)
          have h := elet_at ev25 h
          clear ev25
          refine lv_goto (tgt := 78) hx hb dX12_beamAt_74 (by decide) ?_
          have hl := lv_sub hl [0, 1, 2, 4] rfl
          exact tr_beamAt_14_b78 E hA hR hml kr87 ih _ _ _ _ _ _ _ _ h G hl
def fr_beamAt_14 (S : MS) (a1 : Int32) : Option (Int32 × MS) := fr_beamAt_14_b5 16384 S a1 0 0
set_option maxHeartbeats 4000000 in
set_option maxRecDepth 100000 in
theorem tr_beamAt_14 (l : Launch) (D : va_G) (cI cJ cZ : ClassId) (ad : Nat → Nat) (S : MS) (a1 : Int32) {r1 : Int32} {S1 : MS} (h : fr_beamAt_14 S a1 = some (r1, S1)) : mCi l yX12_beamAt (Cond.code yX12_beamAt cX12_beamAt 5 (some .int) :: wsM) 2 22 D cI cJ cZ ad S [.ref (ad 14), .int a1] (fun r S9 => r = r1 ∧ S9 = S1) := by
  intro sz
  refine Met.ofW (cc := cX12_beamAt) (maxL := 5) (ret := (some .int)) (by decide) rfl ?_
  intro p e s m args below meth c s₁ B hml hv
  obtain ⟨rfl, hsz, hP, hK, hD0, hR⟩ := hv
  have hx := B.exec
  have hb := B.bytes
  have hr := B.returns
  have hts := atoms_spec (ws := (Cond.code yX12_beamAt cX12_beamAt 5 (some .int) :: wsM)) B.pre
  have hown : s.vm.findClass RX12 = some m.cls := findClass_of_methodNamed B.named
  have hlocks := B.notSynchronized
  subst hsz
  have hD := hD0.self (sz := s.heap.size)
  generalize hAe : va_A (MW cI cJ cZ ad S) s.heap.size = A at hD ⊢
  have hA : ∀ q : Nat, s.heap.size ≤ q → A q := fun q h => by rw [← hAe]; exact Or.inr h
  have G : mG D cI cJ cZ ad A s.heap s.heap [] S := ⟨hP, hD, va_S.rf⟩
  have E : mE p c cX12_beamAt s m ([.ref (ad 0), .ref (ad 14), .int a1] : List Value).toArray (Cond.code yX12_beamAt cX12_beamAt 5 (some .int) :: wsM) D cI cJ cZ := ⟨hx, hb, hts, hown, hK, fun w h => .tail _ (iM_x h)⟩
  have hl := lv_entry ([.ref (ad 0), .ref (ad 14), .int a1]) (n := 5) (Nat.le_of_ble_eq_true rfl)
  rw [lg_entry_eq]
  generalize (lg_sl ([.ref (ad 0), .ref (ad 14), .int a1]) ++ List.replicate (5 - (lg_sl ([.ref (ad 0), .ref (ad 14), .int a1])).length) Slot.unset).toArray = ls at hl ⊢
  have hl : lv_has ls 5 [(0, .ref (ad 0)), (1, .ref (ad 14)), (2, .int a1)] := hl
  unfold fr_beamAt_14 at h
  refine lv_iconst (v := 0) hx hb dX12_beamAt_0 (by decide) ?_
  refine lv_istore_n (lv' := [(3, .int 0), (0, .ref (ad 0)), (1, .ref (ad 14)), (2, .int a1)]) hx hb dX12_beamAt_1 rfl hl (by decide) rfl (fun ls hl => ?_)
  refine lv_iconst (v := 0) hx hb dX12_beamAt_2 (by decide) ?_
  refine lv_istore (lv' := [(4, .int 0), (3, .int 0), (0, .ref (ad 0)), (1, .ref (ad 14)), (2, .int a1)]) hx hb dX12_beamAt_3 hl (by decide) rfl (fun ls hl => ?_)
  have hl := lv_sub hl [2, 3, 4, 1, 0] rfl
  exact tr_beamAt_14_b5 E hA hR hml (fun H locs ls G => W.iret (v := r1) hx hb hr (fun t ht hW => ⟨⟨r1, S1, rfl, ⟨rfl, rfl⟩, ⟨by rw [ht]; exact G.1, va_K.moved hW.alike hK, G.2.1⟩⟩, G.2.2.F ht⟩) G.2.2.2.2 dX12_beamAt_87) _ _ _ _ _ _ _ _ h G hl
def fr_energy_14_b6  : Nat → MS → Int32 → Int64 → Int32 → Option (Int64 × MS)
  | 0, _, _, _, _ => none
  | n + 1, S, l3, l4, l6 => if l3 ≤ l6 then (some (l4, S)) else (obind2 (fr_beamAt_14 S l6) fun r6 S3 => elet (r6.toInt64) fun v7 => elet (v7 * v7) fun v8 => elet (l4 + v8) fun v9 => elet (l6 + Int32.ofInt (1)) fun v10 => fr_energy_14_b6 n S3 l3 v9 v10)
set_option maxHeartbeats 4000000 in
set_option maxRecDepth 100000 in
theorem tr_energy_14_b6 {p : Program} {l : Launch} {e : Env} {s : State} {m : MethodId} {args : Array Value} {below : List Frame} {meth : Method} {c : Code} {Q : State → Prop} {D : va_G} {A : Nat → Prop} {H0 : Heap} {cI cJ cZ : ClassId} {ad : Nat → Nat} {r1 : Int64} {S1 : MS} (E : mE p c cX12_energy s m args (Cond.code yX12_energy cX12_energy 9 (some .long) :: wsM) D cI cJ cZ) (hA : ∀ q : Nat, H0.size ≤ q → A q) (hR : sR s) (hml : c.maxLocals = 9) (kr40 : ∀ (H : Heap) (locs : List Loc) (ls : Array Slot), mG D cI cJ cZ ad A H0 H locs S1 → W p l e { frames := 3, cells := 0, slots := 0, locals := 46 } s m args below meth c H locs 0 0 Q (F0 m 40 ls [.long r1])) : ∀ n : Nat, ∀ (S : MS) (H : Heap) (locs : List Loc) (ls : Array Slot) (l3 : Int32) (l4 : Int64) (l6 : Int32), fr_energy_14_b6 n S l3 l4 l6 = some (r1, S1) → mG D cI cJ cZ ad A H0 H locs S → lv_has ls 9 [(0, .ref (ad 0)), (1, .ref (ad 14)), (3, .int l3), (4, .long l4), (6, .int l6)] → W p l e { frames := 3, cells := 0, slots := 0, locals := 46 } s m args below meth c H locs 0 0 Q (F0 m 6 ls []) := by
  have hx := E.1
  have hb := E.2.1
  have hts := E.2.2.1
  have hown := E.2.2.2.1
  have hK := E.2.2.2.2.1
  intro n
  induction n with
  | zero =>
    intro S H locs ls l3 l4 l6 h
    have h : (none : Option (Int64 × MS)) = some (r1, S1) := h
    cases h
  | succ n ih =>
    intro S H locs ls l3 l4 l6 h G hl
    unfold fr_energy_14_b6 at h
    refine lv_iload hx hb dX12_energy_6 (lv_at hl 4 rfl) ?_
    refine lv_iload_n hx hb dX12_energy_8 rfl (lv_at hl 2 rfl) ?_
    refine lv_icmp_ge (tgt := 38) hx hb dX12_energy_9 (by decide) (fun c2 => ?_) (fun c2 => ?_)
    · have h := oif_pos c2 h
      refine lv_lload hx hb dX12_energy_38 (lv_at hl 3 rfl) ?_
      rw [(osome2 h).2] at G
      refine lv_tol (osome2 h).1 ?_
      exact kr40 _ _ _ G
    · have h := oif_neg c2 h
      refine lv_aload_n hx hb dX12_energy_12 rfl (lv_at hl 0 rfl) ?_
      refine lv_aload_n hx hb dX12_energy_13 rfl (lv_at hl 1 rfl) ?_
      refine lv_iload hx hb dX12_energy_14 (lv_at hl 4 rfl) ?_
      obtain ⟨r6, S3, eS3, h⟩ := obind2_some h
      refine m_calli (As := [.ref (ad 14), .int l6]) (rest := []) E G hA hR hml (tr_beamAt_14 l D cI cJ cZ ad S l6 eS3) (cwV 2 hts (gmV qM_279 qM_280 qM_281 qM_35 qM_277) rfl rfl rfl (by decide +kernel) ⟨Nat.le_of_ble_eq_true rfl, Nat.le_of_ble_eq_true rfl⟩) rfl hl.1 rfl (lv_room (Nat.le_of_ble_eq_true rfl)) dX12_energy_16 ⟨Nat.zero_le _, Nat.zero_le _⟩ (fun q4 S5 H locs hq G => ?_)
      obtain ⟨hq1, hq2⟩ := hq
      rw [hq2] at G
      refine lv_to hq1 ?_
      clear hq1 hq2 eS3
      refine lv_i2l (v := r6.toInt64) hx hb dX12_energy_19 rfl ?_
      refine lv_topl (fun v7 ev7 => ?_)
      have h := elet_at ev7 h
      clear ev7
      refine lv_lstore (lv' := [(7, .long v7), (0, .ref (ad 0)), (1, .ref (ad 14)), (3, .int l3), (4, .long l4), (6, .int l6)]) hx hb dX12_energy_20 hl (by decide) rfl (fun ls hl => ?_)
      refine lv_lload hx hb dX12_energy_22 (lv_at hl 4 rfl) ?_
      refine lv_lload hx hb dX12_energy_24 (lv_at hl 0 rfl) ?_
      refine lv_lload hx hb dX12_energy_26 (lv_at hl 0 rfl) ?_
      refine lv_lmul hx hb dX12_energy_28 ?_
      refine lv_topl (fun v8 ev8 => ?_)
      have h := elet_at ev8 h
      clear ev8
      refine lv_ladd hx hb dX12_energy_29 ?_
      refine lv_topl (fun v9 ev9 => ?_)
      have h := elet_at ev9 h
      clear ev9
      refine lv_lstore (lv' := [(4, .long v9), (7, .long v7), (0, .ref (ad 0)), (1, .ref (ad 14)), (3, .int l3), (6, .int l6)]) hx hb dX12_energy_30 hl (by decide) rfl (fun ls hl => ?_)
      obtain ⟨v10, ev10, h⟩ := elet_some h
      refine lv_iinc (v := v10) (lv' := [(6, .int v10), (4, .long v9), (7, .long v7), (0, .ref (ad 0)), (1, .ref (ad 14)), (3, .int l3)]) hx hb dX12_energy_32 hl (k := 5) rfl ev10.symm (by decide) rfl (fun ls hl => ?_)
      refine lv_goto (tgt := 6) hx hb dX12_energy_35 (by decide) ?_
      have hl := lv_sub hl [3, 4, 5, 1, 0] rfl
      exact ih _ _ _ _ _ _ _ h G hl
def fr_energy_14 (S : MS) (a1 : Int32) (a2 : Int32) : Option (Int64 × MS) := fr_energy_14_b6 16384 S a2 (0 : Int64) a1
set_option maxHeartbeats 4000000 in
set_option maxRecDepth 100000 in
theorem tr_energy_14 (l : Launch) (D : va_G) (cI cJ cZ : ClassId) (ad : Nat → Nat) (S : MS) (a1 : Int32) (a2 : Int32) {r1 : Int64} {S1 : MS} (h : fr_energy_14 S a1 a2 = some (r1, S1)) : mCl l yX12_energy (Cond.code yX12_energy cX12_energy 9 (some .long) :: wsM) 3 46 D cI cJ cZ ad S [.ref (ad 14), .int a1, .int a2] (fun r S9 => r = r1 ∧ S9 = S1) := by
  intro sz
  refine Met.ofW (cc := cX12_energy) (maxL := 9) (ret := (some .long)) (by decide) rfl ?_
  intro p e s m args below meth c s₁ B hml hv
  obtain ⟨rfl, hsz, hP, hK, hD0, hR⟩ := hv
  have hx := B.exec
  have hb := B.bytes
  have hr := B.returns
  have hts := atoms_spec (ws := (Cond.code yX12_energy cX12_energy 9 (some .long) :: wsM)) B.pre
  have hown : s.vm.findClass RX12 = some m.cls := findClass_of_methodNamed B.named
  have hlocks := B.notSynchronized
  subst hsz
  have hD := hD0.self (sz := s.heap.size)
  generalize hAe : va_A (MW cI cJ cZ ad S) s.heap.size = A at hD ⊢
  have hA : ∀ q : Nat, s.heap.size ≤ q → A q := fun q h => by rw [← hAe]; exact Or.inr h
  have G : mG D cI cJ cZ ad A s.heap s.heap [] S := ⟨hP, hD, va_S.rf⟩
  have E : mE p c cX12_energy s m ([.ref (ad 0), .ref (ad 14), .int a1, .int a2] : List Value).toArray (Cond.code yX12_energy cX12_energy 9 (some .long) :: wsM) D cI cJ cZ := ⟨hx, hb, hts, hown, hK, fun w h => .tail _ (iM_x h)⟩
  have hl := lv_entry ([.ref (ad 0), .ref (ad 14), .int a1, .int a2]) (n := 9) (Nat.le_of_ble_eq_true rfl)
  rw [lg_entry_eq]
  generalize (lg_sl ([.ref (ad 0), .ref (ad 14), .int a1, .int a2]) ++ List.replicate (9 - (lg_sl ([.ref (ad 0), .ref (ad 14), .int a1, .int a2])).length) Slot.unset).toArray = ls at hl ⊢
  have hl : lv_has ls 9 [(0, .ref (ad 0)), (1, .ref (ad 14)), (2, .int a1), (3, .int a2)] := hl
  unfold fr_energy_14 at h
  refine lv_lconst (v := 0) hx hb dX12_energy_0 (by decide) ?_
  refine lv_lstore (lv' := [(4, .long (0 : Int64)), (0, .ref (ad 0)), (1, .ref (ad 14)), (2, .int a1), (3, .int a2)]) hx hb dX12_energy_1 hl (by decide) rfl (fun ls hl => ?_)
  refine lv_iload_n hx hb dX12_energy_3 rfl (lv_at hl 3 rfl) ?_
  refine lv_istore (lv' := [(6, .int a1), (4, .long (0 : Int64)), (0, .ref (ad 0)), (1, .ref (ad 14)), (2, .int a1), (3, .int a2)]) hx hb dX12_energy_4 hl (by decide) rfl (fun ls hl => ?_)
  have hl := lv_sub hl [2, 3, 5, 1, 0] rfl
  exact tr_energy_14_b6 E hA hR hml (fun H locs ls G => W.lret (v := r1) hx hb hr (fun t ht hW => ⟨⟨r1, S1, rfl, ⟨rfl, rfl⟩, ⟨by rw [ht]; exact G.1, va_K.moved hW.alike hK, G.2.1⟩⟩, G.2.2.F ht⟩) G.2.2.2.2 dX12_energy_40) _ _ _ _ _ _ _ _ h G hl
def fr_powerHere_14_b24  (S : MS) (s0 : Int64) : Option (Int64 × MS) := some (s0, S)
set_option maxHeartbeats 4000000 in
set_option maxRecDepth 100000 in
theorem tr_powerHere_14_b24 {p : Program} {l : Launch} {e : Env} {s : State} {m : MethodId} {args : Array Value} {below : List Frame} {meth : Method} {c : Code} {Q : State → Prop} {D : va_G} {A : Nat → Prop} {H0 : Heap} {cI cJ cZ : ClassId} {ad : Nat → Nat} {r1 : Int64} {S1 : MS} (E : mE p c cX12_powerHere s m args (Cond.code yX12_powerHere cX12_powerHere 3 (some .long) :: wsM) D cI cJ cZ) (hA : ∀ q : Nat, H0.size ≤ q → A q) (hR : sR s) (hml : c.maxLocals = 3) (kr24 : ∀ (H : Heap) (locs : List Loc) (ls : Array Slot), mG D cI cJ cZ ad A H0 H locs S1 → W p l e { frames := 4, cells := 0, slots := 0, locals := 74 } s m args below meth c H locs 0 0 Q (F0 m 24 ls [.long r1])) : ∀ (S : MS) (H : Heap) (locs : List Loc) (ls : Array Slot) (s0 : Int64), fr_powerHere_14_b24 S s0 = some (r1, S1) → mG D cI cJ cZ ad A H0 H locs S → lv_has ls 3 [] → W p l e { frames := 4, cells := 0, slots := 0, locals := 74 } s m args below meth c H locs 0 0 Q (F0 m 24 ls [.long s0]) := by
  have hx := E.1
  have hb := E.2.1
  have hts := E.2.2.1
  have hown := E.2.2.2.1
  have hK := E.2.2.2.2.1
  intro S H locs ls s0 h G hl
  unfold fr_powerHere_14_b24 at h
  rw [(osome2 h).2] at G
  refine lv_tol (osome2 h).1 ?_
  exact kr24 _ _ _ G
def fr_powerHere_14 (S : MS)  : Option (Int64 × MS) := obind2 (fr_windowOf_14 S) fun r5 S2 => if r5 = 0 then (fr_powerHere_14_b24 S2 (0 : Int64)) else (obind2 (fr_energy_14 S2 0 r5) fun r10 S7 => elet (r5.toInt64) fun v11 => oif (¬ v11 = 0) <| elet (r10 / v11) fun v13 => fr_powerHere_14_b24 S7 v13)
set_option maxHeartbeats 4000000 in
set_option maxRecDepth 100000 in
theorem tr_powerHere_14 (l : Launch) (D : va_G) (cI cJ cZ : ClassId) (ad : Nat → Nat) (S : MS)  {r1 : Int64} {S1 : MS} (h : fr_powerHere_14 S = some (r1, S1)) : mCl l yX12_powerHere (Cond.code yX12_powerHere cX12_powerHere 3 (some .long) :: wsM) 4 74 D cI cJ cZ ad S [.ref (ad 14)] (fun r S9 => r = r1 ∧ S9 = S1) := by
  intro sz
  refine Met.ofW (cc := cX12_powerHere) (maxL := 3) (ret := (some .long)) (by decide) rfl ?_
  intro p e s m args below meth c s₁ B hml hv
  obtain ⟨rfl, hsz, hP, hK, hD0, hR⟩ := hv
  have hx := B.exec
  have hb := B.bytes
  have hr := B.returns
  have hts := atoms_spec (ws := (Cond.code yX12_powerHere cX12_powerHere 3 (some .long) :: wsM)) B.pre
  have hown : s.vm.findClass RX12 = some m.cls := findClass_of_methodNamed B.named
  have hlocks := B.notSynchronized
  subst hsz
  have hD := hD0.self (sz := s.heap.size)
  generalize hAe : va_A (MW cI cJ cZ ad S) s.heap.size = A at hD ⊢
  have hA : ∀ q : Nat, s.heap.size ≤ q → A q := fun q h => by rw [← hAe]; exact Or.inr h
  have G : mG D cI cJ cZ ad A s.heap s.heap [] S := ⟨hP, hD, va_S.rf⟩
  have E : mE p c cX12_powerHere s m ([.ref (ad 0), .ref (ad 14)] : List Value).toArray (Cond.code yX12_powerHere cX12_powerHere 3 (some .long) :: wsM) D cI cJ cZ := ⟨hx, hb, hts, hown, hK, fun w h => .tail _ (iM_x h)⟩
  have hl := lv_entry ([.ref (ad 0), .ref (ad 14)]) (n := 3) (Nat.le_of_ble_eq_true rfl)
  rw [lg_entry_eq]
  generalize (lg_sl ([.ref (ad 0), .ref (ad 14)]) ++ List.replicate (3 - (lg_sl ([.ref (ad 0), .ref (ad 14)])).length) Slot.unset).toArray = ls at hl ⊢
  have hl : lv_has ls 3 [(0, .ref (ad 0)), (1, .ref (ad 14))] := hl
  unfold fr_powerHere_14 at h
  refine lv_aload_n hx hb dX12_powerHere_0 rfl (lv_at hl 0 rfl) ?_
  refine lv_aload_n hx hb dX12_powerHere_1 rfl (lv_at hl 1 rfl) ?_
  obtain ⟨r5, S2, eS2, h⟩ := obind2_some h
  refine m_calli (As := [.ref (ad 14)]) (rest := []) E G hA hR hml (tr_windowOf_14 l D cI cJ cZ ad S eS2) (cwV 1 hts (gmV qM_283 qM_284 qM_285 qM_35 qM_273) rfl rfl rfl (by decide +kernel) ⟨Nat.le_of_ble_eq_true rfl, Nat.le_of_ble_eq_true rfl⟩) rfl hl.1 rfl (lv_room (Nat.le_of_ble_eq_true rfl)) dX12_powerHere_2 ⟨Nat.zero_le _, Nat.zero_le _⟩ (fun q3 S4 H locs hq G => ?_)
  obtain ⟨hq1, hq2⟩ := hq
  rw [hq2] at G
  refine lv_to hq1 ?_
  clear hq1 hq2 eS2
  refine lv_istore_n (lv' := [(2, .int r5), (0, .ref (ad 0)), (1, .ref (ad 14))]) hx hb dX12_powerHere_5 rfl hl (by decide) rfl (fun ls hl => ?_)
  refine lv_iload_n hx hb dX12_powerHere_6 rfl (lv_at hl 0 rfl) ?_
  refine lv_if_ne (tgt := 14) hx hb dX12_powerHere_7 (by decide) (fun c6 => ?_) (fun c6 => ?_)
  · have h := oif_neg c6 h
    refine lv_aload_n hx hb dX12_powerHere_14 rfl (lv_at hl 1 rfl) ?_
    refine lv_aload_n hx hb dX12_powerHere_15 rfl (lv_at hl 2 rfl) ?_
    refine lv_iconst (v := 0) hx hb dX12_powerHere_16 (by decide) ?_
    refine lv_iload_n hx hb dX12_powerHere_17 rfl (lv_at hl 0 rfl) ?_
    obtain ⟨r10, S7, eS7, h⟩ := obind2_some h
    refine m_calll (As := [.ref (ad 14), .int 0, .int r5]) (rest := []) E G hA hR hml (tr_energy_14 l D cI cJ cZ ad S2 0 r5 eS7) (cwV 3 hts (gmV qM_286 qM_287 qM_288 qM_35 qM_278) rfl rfl rfl (by decide +kernel) ⟨Nat.le_of_ble_eq_true rfl, Nat.le_of_ble_eq_true rfl⟩) rfl hl.1 rfl (lv_room (Nat.le_of_ble_eq_true rfl)) dX12_powerHere_18 ⟨Nat.zero_le _, Nat.zero_le _⟩ (fun q8 S9 H locs hq G => ?_)
    obtain ⟨hq1, hq2⟩ := hq
    rw [hq2] at G
    refine lv_tol hq1 ?_
    clear hq1 hq2 eS7
    refine lv_iload_n hx hb dX12_powerHere_21 rfl (lv_at hl 0 rfl) ?_
    refine lv_i2l (v := r5.toInt64) hx hb dX12_powerHere_22 rfl ?_
    refine lv_topl (fun v11 ev11 => ?_)
    have h := elet_at ev11 h
    clear ev11
    obtain ⟨g12, h⟩ := oif_some h
    refine lv_ldiv hx hb dX12_powerHere_23 g12 ?_
    refine lv_topl (fun v13 ev13 => ?_)
    have h := elet_at ev13 h
    clear ev13
    have hl := lv_sub hl [] rfl
    exact tr_powerHere_14_b24 E hA hR hml (fun H locs ls G => W.lret (v := r1) hx hb hr (fun t ht hW => ⟨⟨r1, S1, rfl, ⟨rfl, rfl⟩, ⟨by rw [ht]; exact G.1, va_K.moved hW.alike hK, G.2.1⟩⟩, G.2.2.F ht⟩) G.2.2.2.2 dX12_powerHere_24) _ _ _ _ _ h G hl
  · have h := oif_pos c6 h
    refine lv_lconst (v := 0) hx hb dX12_powerHere_10 (by decide) ?_
    refine lv_goto (tgt := 24) hx hb dX12_powerHere_11 (by decide) ?_
    have hl := lv_sub hl [] rfl
    exact tr_powerHere_14_b24 E hA hR hml (fun H locs ls G => W.lret (v := r1) hx hb hr (fun t ht hW => ⟨⟨r1, S1, rfl, ⟨rfl, rfl⟩, ⟨by rw [ht]; exact G.1, va_K.moved hW.alike hK, G.2.1⟩⟩, G.2.2.F ht⟩) G.2.2.2.2 dX12_powerHere_24) _ _ _ _ _ h G hl
def fr_powerOf_14 (S : MS) (a1 : Int32) : Option (Int64 × MS) := obind (fr_laysCell S a1) fun S2 => obind2 (fr_powerHere_14 S2) fun r8 S5 => some (r8, S5)
set_option maxHeartbeats 4000000 in
set_option maxRecDepth 100000 in
theorem tr_powerOf_14 (l : Launch) (D : va_G) (cI cJ cZ : ClassId) (ad : Nat → Nat) (S : MS) (a1 : Int32) {r1 : Int64} {S1 : MS} (h : fr_powerOf_14 S a1 = some (r1, S1)) : mCl l yX12_powerOf (Cond.code yX12_powerOf cX12_powerOf 3 (some .long) :: wsM) 5 96 D cI cJ cZ ad S [.ref (ad 14), .int a1] (fun r S9 => r = r1 ∧ S9 = S1) := by
  intro sz
  refine Met.ofW (cc := cX12_powerOf) (maxL := 3) (ret := (some .long)) (by decide) rfl ?_
  intro p e s m args below meth c s₁ B hml hv
  obtain ⟨rfl, hsz, hP, hK, hD0, hR⟩ := hv
  have hx := B.exec
  have hb := B.bytes
  have hr := B.returns
  have hts := atoms_spec (ws := (Cond.code yX12_powerOf cX12_powerOf 3 (some .long) :: wsM)) B.pre
  have hown : s.vm.findClass RX12 = some m.cls := findClass_of_methodNamed B.named
  have hlocks := B.notSynchronized
  subst hsz
  have hD := hD0.self (sz := s.heap.size)
  generalize hAe : va_A (MW cI cJ cZ ad S) s.heap.size = A at hD ⊢
  have hA : ∀ q : Nat, s.heap.size ≤ q → A q := fun q h => by rw [← hAe]; exact Or.inr h
  have G : mG D cI cJ cZ ad A s.heap s.heap [] S := ⟨hP, hD, va_S.rf⟩
  have E : mE p c cX12_powerOf s m ([.ref (ad 0), .ref (ad 14), .int a1] : List Value).toArray (Cond.code yX12_powerOf cX12_powerOf 3 (some .long) :: wsM) D cI cJ cZ := ⟨hx, hb, hts, hown, hK, fun w h => .tail _ (iM_x h)⟩
  have hl := lv_entry ([.ref (ad 0), .ref (ad 14), .int a1]) (n := 3) (Nat.le_of_ble_eq_true rfl)
  rw [lg_entry_eq]
  generalize (lg_sl ([.ref (ad 0), .ref (ad 14), .int a1]) ++ List.replicate (3 - (lg_sl ([.ref (ad 0), .ref (ad 14), .int a1])).length) Slot.unset).toArray = ls at hl ⊢
  have hl : lv_has ls 3 [(0, .ref (ad 0)), (1, .ref (ad 14)), (2, .int a1)] := hl
  unfold fr_powerOf_14 at h
  refine lv_aload_n hx hb dX12_powerOf_0 rfl (lv_at hl 0 rfl) ?_
  refine lv_iload_n hx hb dX12_powerOf_1 rfl (lv_at hl 2 rfl) ?_
  obtain ⟨S2, eS2, h⟩ := obind_some h
  refine m_callv (As := [.int a1]) (rest := []) E G hA hR hml (tr_laysCell l D cI cJ cZ ad S a1 eS2) (cwV 1 hts (gmV qM_290 qM_291 qM_292 qM_35 qM_270) rfl rfl rfl (by decide +kernel) ⟨Nat.le_of_ble_eq_true rfl, Nat.le_of_ble_eq_true rfl⟩) rfl hl.1 rfl (lv_room (Nat.le_of_ble_eq_true rfl)) dX12_powerOf_2 ⟨Nat.zero_le _, Nat.zero_le _⟩ (fun S4 H locs hq G => ?_)
  rw [hq] at G
  clear hq eS2
  refine lv_aload_n hx hb dX12_powerOf_5 rfl (lv_at hl 0 rfl) ?_
  refine lv_aload_n hx hb dX12_powerOf_6 rfl (lv_at hl 1 rfl) ?_
  obtain ⟨r8, S5, eS5, h⟩ := obind2_some h
  refine m_calll (As := [.ref (ad 14)]) (rest := []) E G hA hR hml (tr_powerHere_14 l D cI cJ cZ ad S2 eS5) (cwV 1 hts (gmV qM_293 qM_294 qM_295 qM_35 qM_282) rfl rfl rfl (by decide +kernel) ⟨Nat.le_of_ble_eq_true rfl, Nat.le_of_ble_eq_true rfl⟩) rfl hl.1 rfl (lv_room (Nat.le_of_ble_eq_true rfl)) dX12_powerOf_7 ⟨Nat.zero_le _, Nat.zero_le _⟩ (fun q6 S7 H locs hq G => ?_)
  obtain ⟨hq1, hq2⟩ := hq
  rw [hq2] at G
  refine lv_tol hq1 ?_
  clear hq1 hq2 eS5
  exact W.lret (v := r8) hx hb hr (fun t ht hW => ⟨⟨r8, S5, rfl, osome2 h, ⟨by rw [ht]; exact G.1, va_K.moved hW.alike hK, G.2.1⟩⟩, G.2.2.F ht⟩) G.2.2.2.2 dX12_powerOf_10
def fr_laysPowers_14_b2  : Nat → MS → Int32 → Option (MS)
  | 0, _, _ => none
  | n + 1, S, l2 => obind2 (fr_cellCount S) fun r5 S2 => if r5 ≤ l2 then (some S2) else (obind2 (fr_powerOf_14 S2 l2) fun r10 S7 => oif (inb l2 144 = true) <| elet (mg S7 25 (vp_updL (S7.2.2 25) l2.toNatClampNeg r10)) fun S12 => elet (l2 + Int32.ofInt (1)) fun v13 => fr_laysPowers_14_b2 n S12 v13)
set_option maxHeartbeats 4000000 in
set_option maxRecDepth 100000 in
theorem tr_laysPowers_14_b2 {p : Program} {l : Launch} {e : Env} {s : State} {m : MethodId} {args : Array Value} {below : List Frame} {meth : Method} {c : Code} {Q : State → Prop} {D : va_G} {A : Nat → Prop} {H0 : Heap} {cI cJ cZ : ClassId} {ad : Nat → Nat} {S1 : MS} (E : mE p c cX12_laysPowers s m args (Cond.code yX12_laysPowers cX12_laysPowers 3 none :: wsM) D cI cJ cZ) (hA : ∀ q : Nat, H0.size ≤ q → A q) (hR : sR s) (hml : c.maxLocals = 3) (kr28 : ∀ (H : Heap) (locs : List Loc) (ls : Array Slot), mG D cI cJ cZ ad A H0 H locs S1 → W p l e { frames := 6, cells := 0, slots := 0, locals := 118 } s m args below meth c H locs 0 0 Q (F0 m 28 ls [])) : ∀ n : Nat, ∀ (S : MS) (H : Heap) (locs : List Loc) (ls : Array Slot) (l2 : Int32), fr_laysPowers_14_b2 n S l2 = some S1 → mG D cI cJ cZ ad A H0 H locs S → lv_has ls 3 [(0, .ref (ad 0)), (1, .ref (ad 14)), (2, .int l2)] → W p l e { frames := 6, cells := 0, slots := 0, locals := 118 } s m args below meth c H locs 0 0 Q (F0 m 2 ls []) := by
  have hx := E.1
  have hb := E.2.1
  have hts := E.2.2.1
  have hown := E.2.2.2.1
  have hK := E.2.2.2.2.1
  intro n
  induction n with
  | zero =>
    intro S H locs ls l2 h
    have h : (none : Option (MS)) = some S1 := h
    cases h
  | succ n ih =>
    intro S H locs ls l2 h G hl
    unfold fr_laysPowers_14_b2 at h
    refine lv_iload_n hx hb dX12_laysPowers_2 rfl (lv_at hl 2 rfl) ?_
    refine lv_aload_n hx hb dX12_laysPowers_3 rfl (lv_at hl 0 rfl) ?_
    obtain ⟨r5, S2, eS2, h⟩ := obind2_some h
    refine m_calli (As := []) (rest := [.int l2]) E G hA hR hml (tr_cellCount l D cI cJ cZ ad S eS2) (cwV 0 hts (gmV qM_204 qM_205 qM_206 qM_35 qM_207) rfl rfl rfl (by decide +kernel) ⟨Nat.le_of_ble_eq_true rfl, Nat.le_of_ble_eq_true rfl⟩) rfl hl.1 rfl (lv_room (Nat.le_of_ble_eq_true rfl)) dX12_laysPowers_4 ⟨Nat.zero_le _, Nat.zero_le _⟩ (fun q3 S4 H locs hq G => ?_)
    obtain ⟨hq1, hq2⟩ := hq
    rw [hq2] at G
    refine lv_to hq1 ?_
    clear hq1 hq2 eS2
    refine lv_icmp_ge (tgt := 28) hx hb dX12_laysPowers_7 (by decide) (fun c6 => ?_) (fun c6 => ?_)
    · have h := oif_pos c6 h
      rw [osome1 h] at G
      exact kr28 _ _ _ G
    · have h := oif_neg c6 h
      refine lv_aload_n hx hb dX12_laysPowers_10 rfl (lv_at hl 0 rfl) ?_
      refine m_get E G 25 (v := .ref (ad 25)) (by decide) (.tail _ qM_21) rfl dX12_laysPowers_11 rfl ?_
      refine lv_iload_n hx hb dX12_laysPowers_14 rfl (lv_at hl 2 rfl) ?_
      refine lv_aload_n hx hb dX12_laysPowers_15 rfl (lv_at hl 0 rfl) ?_
      refine lv_aload_n hx hb dX12_laysPowers_16 rfl (lv_at hl 1 rfl) ?_
      refine lv_iload_n hx hb dX12_laysPowers_17 rfl (lv_at hl 2 rfl) ?_
      obtain ⟨r10, S7, eS7, h⟩ := obind2_some h
      refine m_calll (As := [.ref (ad 14), .int l2]) (rest := [.int l2, .ref (ad 25)]) E G hA hR hml (tr_powerOf_14 l D cI cJ cZ ad S2 l2 eS7) (cwV 2 hts (gmV qM_297 qM_298 qM_299 qM_35 qM_289) rfl rfl rfl (by decide +kernel) ⟨Nat.le_of_ble_eq_true rfl, Nat.le_of_ble_eq_true rfl⟩) rfl hl.1 rfl (lv_room (Nat.le_of_ble_eq_true rfl)) dX12_laysPowers_18 ⟨Nat.zero_le _, Nat.zero_le _⟩ (fun q8 S9 H locs hq G => ?_)
      obtain ⟨hq1, hq2⟩ := hq
      rw [hq2] at G
      refine lv_tol hq1 ?_
      clear hq1 hq2 eS7
      obtain ⟨g11, h⟩ := oif_some h
      refine m_last E G 25 13 (k := l2.toNatClampNeg) (v := r10) rfl (fun _ => rfl) (inb_k g11).1 (inb_k g11).2 (by decide) dX12_laysPowers_21 (fun H locs G => ?_)
      obtain ⟨S12, eS12, h⟩ := elet_some h
      rw [← eS12] at G
      clear eS12
      obtain ⟨v13, ev13, h⟩ := elet_some h
      refine lv_iinc (v := v13) (lv' := [(2, .int v13), (0, .ref (ad 0)), (1, .ref (ad 14))]) hx hb dX12_laysPowers_22 hl (k := 2) rfl ev13.symm (by decide) rfl (fun ls hl => ?_)
      refine lv_goto (tgt := 2) hx hb dX12_laysPowers_25 (by decide) ?_
      have hl := lv_sub hl [1, 2, 0] rfl
      exact ih _ _ _ _ _ h G hl
def fr_laysPowers_14 (S : MS)  : Option (MS) := fr_laysPowers_14_b2 16384 S 0
set_option maxHeartbeats 4000000 in
set_option maxRecDepth 100000 in
theorem tr_laysPowers_14 (l : Launch) (D : va_G) (cI cJ cZ : ClassId) (ad : Nat → Nat) (S : MS)  {S1 : MS} (h : fr_laysPowers_14 S = some S1) : mCv l yX12_laysPowers (Cond.code yX12_laysPowers cX12_laysPowers 3 none :: wsM) 6 118 D cI cJ cZ ad S [.ref (ad 14)] (fun S9 => S9 = S1) := by
  intro sz
  refine Met.ofW (cc := cX12_laysPowers) (maxL := 3) (ret := none) (by decide) rfl ?_
  intro p e s m args below meth c s₁ B hml hv
  obtain ⟨rfl, hsz, hP, hK, hD0, hR⟩ := hv
  have hx := B.exec
  have hb := B.bytes
  have hr := B.returns
  have hts := atoms_spec (ws := (Cond.code yX12_laysPowers cX12_laysPowers 3 none :: wsM)) B.pre
  have hown : s.vm.findClass RX12 = some m.cls := findClass_of_methodNamed B.named
  have hlocks := B.notSynchronized
  subst hsz
  have hD := hD0.self (sz := s.heap.size)
  generalize hAe : va_A (MW cI cJ cZ ad S) s.heap.size = A at hD ⊢
  have hA : ∀ q : Nat, s.heap.size ≤ q → A q := fun q h => by rw [← hAe]; exact Or.inr h
  have G : mG D cI cJ cZ ad A s.heap s.heap [] S := ⟨hP, hD, va_S.rf⟩
  have E : mE p c cX12_laysPowers s m ([.ref (ad 0), .ref (ad 14)] : List Value).toArray (Cond.code yX12_laysPowers cX12_laysPowers 3 none :: wsM) D cI cJ cZ := ⟨hx, hb, hts, hown, hK, fun w h => .tail _ (iM_x h)⟩
  have hl := lv_entry ([.ref (ad 0), .ref (ad 14)]) (n := 3) (Nat.le_of_ble_eq_true rfl)
  rw [lg_entry_eq]
  generalize (lg_sl ([.ref (ad 0), .ref (ad 14)]) ++ List.replicate (3 - (lg_sl ([.ref (ad 0), .ref (ad 14)])).length) Slot.unset).toArray = ls at hl ⊢
  have hl : lv_has ls 3 [(0, .ref (ad 0)), (1, .ref (ad 14))] := hl
  unfold fr_laysPowers_14 at h
  refine lv_iconst (v := 0) hx hb dX12_laysPowers_0 (by decide) ?_
  refine lv_istore_n (lv' := [(2, .int 0), (0, .ref (ad 0)), (1, .ref (ad 14))]) hx hb dX12_laysPowers_1 rfl hl (by decide) rfl (fun ls hl => ?_)
  have hl := lv_sub hl [1, 2, 0] rfl
  exact tr_laysPowers_14_b2 E hA hR hml (fun H locs ls G => W.vret hx hb hr (fun t ht hW => ⟨⟨S1, rfl, rfl, ⟨by rw [ht]; exact G.1, va_K.moved hW.alike hK, G.2.1⟩⟩, G.2.2.F ht⟩) G.2.2.2.2 dX12_laysPowers_28) _ _ _ _ _ _ h G hl
def fr_bestIn_14_b38 (k9 : MS → Int32 → Int32 → Option (Int32 × MS)) (S : MS) (s0 : Int32) (l3 : Int32) : Option (Int32 × MS) := elet (l3 + Int32.ofInt (1)) fun v2 => k9 S s0 v2
set_option maxHeartbeats 4000000 in
set_option maxRecDepth 100000 in
theorem tr_bestIn_14_b38 {p : Program} {l : Launch} {e : Env} {s : State} {m : MethodId} {args : Array Value} {below : List Frame} {meth : Method} {c : Code} {Q : State → Prop} {D : va_G} {A : Nat → Prop} {H0 : Heap} {cI cJ cZ : ClassId} {ad : Nat → Nat} {r1 : Int32} {S1 : MS} (E : mE p c cX12_bestIn s m args (Cond.code yX12_bestIn cX12_bestIn 4 (some .int) :: wsM) D cI cJ cZ) (hA : ∀ q : Nat, H0.size ≤ q → A q) (hR : sR s) (hml : c.maxLocals = 4) (kr46 : ∀ (H : Heap) (locs : List Loc) (ls : Array Slot), mG D cI cJ cZ ad A H0 H locs S1 → W p l e { frames := 7, cells := 0, slots := 0, locals := 140 } s m args below meth c H locs 0 0 Q (F0 m 46 ls [.int r1])) {k9 : MS → Int32 → Int32 → Option (Int32 × MS)} (hk9 : ∀ (S : MS) (H : Heap) (locs : List Loc) (ls : Array Slot) (l2 : Int32) (l3 : Int32), k9 S l2 l3 = some (r1, S1) → mG D cI cJ cZ ad A H0 H locs S → lv_has ls 4 [(0, .ref (ad 0)), (2, .int l2), (3, .int l3)] → W p l e { frames := 7, cells := 0, slots := 0, locals := 140 } s m args below meth c H locs 0 0 Q (F0 m 9 ls [])) : ∀ (S : MS) (H : Heap) (locs : List Loc) (ls : Array Slot) (s0 : Int32) (l3 : Int32), fr_bestIn_14_b38 k9 S s0 l3 = some (r1, S1) → mG D cI cJ cZ ad A H0 H locs S → lv_has ls 4 [(0, .ref (ad 0)), (3, .int l3)] → W p l e { frames := 7, cells := 0, slots := 0, locals := 140 } s m args below meth c H locs 0 0 Q (F0 m 38 ls [.int s0]) := by
  have hx := E.1
  have hb := E.2.1
  have hts := E.2.2.1
  have hown := E.2.2.2.1
  have hK := E.2.2.2.2.1
  intro S H locs ls s0 l3 h G hl
  unfold fr_bestIn_14_b38 at h
  refine lv_istore_n (lv' := [(2, .int s0), (0, .ref (ad 0)), (3, .int l3)]) hx hb dX12_bestIn_38 rfl hl (by decide) rfl (fun ls hl => ?_)
  obtain ⟨v2, ev2, h⟩ := elet_some h
  refine lv_iinc (v := v2) (lv' := [(3, .int v2), (2, .int s0), (0, .ref (ad 0))]) hx hb dX12_bestIn_39 hl (k := 2) rfl ev2.symm (by decide) rfl (fun ls hl => ?_)
  refine lv_goto (tgt := 9) hx hb dX12_bestIn_42 (by decide) ?_
  have hl := lv_sub hl [2, 1, 0] rfl
  exact hk9 _ _ _ _ _ _ h G hl
def fr_bestIn_14_b9  : Nat → MS → Int32 → Int32 → Option (Int32 × MS)
  | 0, _, _, _ => none
  | n + 1, S, l2, l3 => obind2 (fr_cellCount S) fun r5 S2 => if r5 ≤ l3 then (some (l2, S2)) else (oif (inb l3 144 = true) <| elet (S2.2.2 25 l3.toNatClampNeg) fun v8 => oif (inb l2 144 = true) <| elet (S2.2.2 25 l2.toNatClampNeg) fun v10 => elet (lg_cmp v8 v10) fun v11 => if v11 ≤ 0 then (fr_bestIn_14_b38 (fr_bestIn_14_b9 n) S2 l2 l3) else (fr_bestIn_14_b38 (fr_bestIn_14_b9 n) S2 l3 l3))
set_option maxHeartbeats 4000000 in
set_option maxRecDepth 100000 in
theorem tr_bestIn_14_b9 {p : Program} {l : Launch} {e : Env} {s : State} {m : MethodId} {args : Array Value} {below : List Frame} {meth : Method} {c : Code} {Q : State → Prop} {D : va_G} {A : Nat → Prop} {H0 : Heap} {cI cJ cZ : ClassId} {ad : Nat → Nat} {r1 : Int32} {S1 : MS} (E : mE p c cX12_bestIn s m args (Cond.code yX12_bestIn cX12_bestIn 4 (some .int) :: wsM) D cI cJ cZ) (hA : ∀ q : Nat, H0.size ≤ q → A q) (hR : sR s) (hml : c.maxLocals = 4) (kr46 : ∀ (H : Heap) (locs : List Loc) (ls : Array Slot), mG D cI cJ cZ ad A H0 H locs S1 → W p l e { frames := 7, cells := 0, slots := 0, locals := 140 } s m args below meth c H locs 0 0 Q (F0 m 46 ls [.int r1])) : ∀ n : Nat, ∀ (S : MS) (H : Heap) (locs : List Loc) (ls : Array Slot) (l2 : Int32) (l3 : Int32), fr_bestIn_14_b9 n S l2 l3 = some (r1, S1) → mG D cI cJ cZ ad A H0 H locs S → lv_has ls 4 [(0, .ref (ad 0)), (2, .int l2), (3, .int l3)] → W p l e { frames := 7, cells := 0, slots := 0, locals := 140 } s m args below meth c H locs 0 0 Q (F0 m 9 ls []) := by
  have hx := E.1
  have hb := E.2.1
  have hts := E.2.2.1
  have hown := E.2.2.2.1
  have hK := E.2.2.2.2.1
  intro n
  induction n with
  | zero =>
    intro S H locs ls l2 l3 h
    have h : (none : Option (Int32 × MS)) = some (r1, S1) := h
    cases h
  | succ n ih =>
    intro S H locs ls l2 l3 h G hl
    unfold fr_bestIn_14_b9 at h
    refine lv_iload_n hx hb dX12_bestIn_9 rfl (lv_at hl 2 rfl) ?_
    refine lv_aload_n hx hb dX12_bestIn_10 rfl (lv_at hl 0 rfl) ?_
    obtain ⟨r5, S2, eS2, h⟩ := obind2_some h
    refine m_calli (As := []) (rest := [.int l3]) E G hA hR hml (tr_cellCount l D cI cJ cZ ad S eS2) (cwV 0 hts (gmV qM_204 qM_205 qM_206 qM_35 qM_207) rfl rfl rfl (by decide +kernel) ⟨Nat.le_of_ble_eq_true rfl, Nat.le_of_ble_eq_true rfl⟩) rfl hl.1 rfl (lv_room (Nat.le_of_ble_eq_true rfl)) dX12_bestIn_11 ⟨Nat.zero_le _, Nat.zero_le _⟩ (fun q3 S4 H locs hq G => ?_)
    obtain ⟨hq1, hq2⟩ := hq
    rw [hq2] at G
    refine lv_to hq1 ?_
    clear hq1 hq2 eS2
    refine lv_icmp_ge (tgt := 45) hx hb dX12_bestIn_14 (by decide) (fun c6 => ?_) (fun c6 => ?_)
    · have h := oif_pos c6 h
      refine lv_iload_n hx hb dX12_bestIn_45 rfl (lv_at hl 1 rfl) ?_
      rw [(osome2 h).2] at G
      refine lv_to (osome2 h).1 ?_
      exact kr46 _ _ _ G
    · have h := oif_neg c6 h
      refine lv_aload_n hx hb dX12_bestIn_17 rfl (lv_at hl 0 rfl) ?_
      refine m_get E G 25 (v := .ref (ad 25)) (by decide) (.tail _ qM_21) rfl dX12_bestIn_18 rfl ?_
      refine lv_iload_n hx hb dX12_bestIn_21 rfl (lv_at hl 2 rfl) ?_
      obtain ⟨g7, h⟩ := oif_some h
      refine m_lald E G 25 13 (n := 144) (k := l3.toNatClampNeg) rfl (inb_k g7).1 (inb_k g7).2 (by decide) dX12_bestIn_22 ?_
      refine lv_topl (fun v8 ev8 => ?_)
      have h := elet_at ev8 h
      clear ev8
      refine lv_aload_n hx hb dX12_bestIn_23 rfl (lv_at hl 0 rfl) ?_
      refine m_get E G 25 (v := .ref (ad 25)) (by decide) (.tail _ qM_21) rfl dX12_bestIn_24 rfl ?_
      refine lv_iload_n hx hb dX12_bestIn_27 rfl (lv_at hl 1 rfl) ?_
      obtain ⟨g9, h⟩ := oif_some h
      refine m_lald E G 25 13 (n := 144) (k := l2.toNatClampNeg) rfl (inb_k g9).1 (inb_k g9).2 (by decide) dX12_bestIn_28 ?_
      refine lv_topl (fun v10 ev10 => ?_)
      have h := elet_at ev10 h
      clear ev10
      refine W.lcmp hx hb dX12_bestIn_29 ?_
      refine lv_topi (fun v11 ev11 => ?_)
      have h := elet_at ev11 h
      clear ev11
      refine lv_if_le (tgt := 37) hx hb dX12_bestIn_30 (by decide) (fun c12 => ?_) (fun c12 => ?_)
      · have h := oif_pos c12 h
        refine lv_iload_n hx hb dX12_bestIn_37 rfl (lv_at hl 1 rfl) ?_
        have hl := lv_sub hl [0, 2] rfl
        exact tr_bestIn_14_b38 E hA hR hml kr46 ih _ _ _ _ _ _ h G hl
      · have h := oif_neg c12 h
        refine lv_iload_n hx hb dX12_bestIn_33 rfl (lv_at hl 2 rfl) ?_
        refine lv_goto (tgt := 38) hx hb dX12_bestIn_34 (by decide) ?_
        have hl := lv_sub hl [0, 2] rfl
        exact tr_bestIn_14_b38 E hA hR hml kr46 ih _ _ _ _ _ _ h G hl
def fr_bestIn_14 (S : MS)  : Option (Int32 × MS) := obind (fr_laysPowers_14 S) fun S2 => fr_bestIn_14_b9 16384 S2 0 1
set_option maxHeartbeats 4000000 in
set_option maxRecDepth 100000 in
theorem tr_bestIn_14 (l : Launch) (D : va_G) (cI cJ cZ : ClassId) (ad : Nat → Nat) (S : MS)  {r1 : Int32} {S1 : MS} (h : fr_bestIn_14 S = some (r1, S1)) : mCi l yX12_bestIn (Cond.code yX12_bestIn cX12_bestIn 4 (some .int) :: wsM) 7 140 D cI cJ cZ ad S [.ref (ad 14)] (fun r S9 => r = r1 ∧ S9 = S1) := by
  intro sz
  refine Met.ofW (cc := cX12_bestIn) (maxL := 4) (ret := (some .int)) (by decide) rfl ?_
  intro p e s m args below meth c s₁ B hml hv
  obtain ⟨rfl, hsz, hP, hK, hD0, hR⟩ := hv
  have hx := B.exec
  have hb := B.bytes
  have hr := B.returns
  have hts := atoms_spec (ws := (Cond.code yX12_bestIn cX12_bestIn 4 (some .int) :: wsM)) B.pre
  have hown : s.vm.findClass RX12 = some m.cls := findClass_of_methodNamed B.named
  have hlocks := B.notSynchronized
  subst hsz
  have hD := hD0.self (sz := s.heap.size)
  generalize hAe : va_A (MW cI cJ cZ ad S) s.heap.size = A at hD ⊢
  have hA : ∀ q : Nat, s.heap.size ≤ q → A q := fun q h => by rw [← hAe]; exact Or.inr h
  have G : mG D cI cJ cZ ad A s.heap s.heap [] S := ⟨hP, hD, va_S.rf⟩
  have E : mE p c cX12_bestIn s m ([.ref (ad 0), .ref (ad 14)] : List Value).toArray (Cond.code yX12_bestIn cX12_bestIn 4 (some .int) :: wsM) D cI cJ cZ := ⟨hx, hb, hts, hown, hK, fun w h => .tail _ (iM_x h)⟩
  have hl := lv_entry ([.ref (ad 0), .ref (ad 14)]) (n := 4) (Nat.le_of_ble_eq_true rfl)
  rw [lg_entry_eq]
  generalize (lg_sl ([.ref (ad 0), .ref (ad 14)]) ++ List.replicate (4 - (lg_sl ([.ref (ad 0), .ref (ad 14)])).length) Slot.unset).toArray = ls at hl ⊢
  have hl : lv_has ls 4 [(0, .ref (ad 0)), (1, .ref (ad 14))] := hl
  unfold fr_bestIn_14 at h
  refine lv_aload_n hx hb dX12_bestIn_0 rfl (lv_at hl 0 rfl) ?_
  refine lv_aload_n hx hb dX12_bestIn_1 rfl (lv_at hl 1 rfl) ?_
  obtain ⟨S2, eS2, h⟩ := obind_some h
  refine m_callv (As := [.ref (ad 14)]) (rest := []) E G hA hR hml (tr_laysPowers_14 l D cI cJ cZ ad S eS2) (cwV 1 hts (gmV qM_301 qM_302 qM_303 qM_35 qM_296) rfl rfl rfl (by decide +kernel) ⟨Nat.le_of_ble_eq_true rfl, Nat.le_of_ble_eq_true rfl⟩) rfl hl.1 rfl (lv_room (Nat.le_of_ble_eq_true rfl)) dX12_bestIn_2 ⟨Nat.zero_le _, Nat.zero_le _⟩ (fun S4 H locs hq G => ?_)
  rw [hq] at G
  clear hq eS2
  refine lv_iconst (v := 0) hx hb dX12_bestIn_5 (by decide) ?_
  refine lv_istore_n (lv' := [(2, .int 0), (0, .ref (ad 0)), (1, .ref (ad 14))]) hx hb dX12_bestIn_6 rfl hl (by decide) rfl (fun ls hl => ?_)
  refine lv_iconst (v := 1) hx hb dX12_bestIn_7 (by decide) ?_
  refine lv_istore_n (lv' := [(3, .int 1), (2, .int 0), (0, .ref (ad 0)), (1, .ref (ad 14))]) hx hb dX12_bestIn_8 rfl hl (by decide) rfl (fun ls hl => ?_)
  have hl := lv_sub hl [2, 1, 0] rfl
  exact tr_bestIn_14_b9 E hA hR hml (fun H locs ls G => W.iret (v := r1) hx hb hr (fun t ht hW => ⟨⟨r1, S1, rfl, ⟨rfl, rfl⟩, ⟨by rw [ht]; exact G.1, va_K.moved hW.alike hK, G.2.1⟩⟩, G.2.2.F ht⟩) G.2.2.2.2 dX12_bestIn_46) _ _ _ _ _ _ _ h G hl
def fr_pointBest (S : MS) (a0 : Int32) (a1 : Int32) : Option (Int32 × MS) := obind2 (fr_isCell S a0) fun r5 S2 => obind2 (fr_mayAsk S2 r5) fun r9 S6 => if r9 = 0 then (some (0, S6)) else (obind (fr_isPeriod a1) fun r11 => if r11 = 0 then (obind2 (fr_throwsAt S6 3) fun r17 S14 => some (r17, S14)) else (obind (fr_copy_12_14 S6 0 0) fun S18 => obind (fr_recordsPoint_14 S18 a0 a1) fun S21 => obind2 (fr_bestIn_14 S21) fun r27 S24 => some (r27, S24)))
set_option maxHeartbeats 4000000 in
set_option maxRecDepth 100000 in
theorem tr_pointBest (l : Launch) (D : va_G) (cI cJ cZ : ClassId) (ad : Nat → Nat) (S : MS) (a0 : Int32) (a1 : Int32) {r1 : Int32} {S1 : MS} (h : fr_pointBest S a0 a1 = some (r1, S1)) : mCi l yX12_pointBest (Cond.code yX12_pointBest cX12_pointBest 3 (some .int) :: wsM) 8 192 D cI cJ cZ ad S [.int a0, .int a1] (fun r S9 => r = r1 ∧ S9 = S1) := by
  intro sz
  refine Met.ofW (cc := cX12_pointBest) (maxL := 3) (ret := (some .int)) (by decide) rfl ?_
  intro p e s m args below meth c s₁ B hml hv
  obtain ⟨rfl, hsz, hP, hK, hD0, hR⟩ := hv
  have hx := B.exec
  have hb := B.bytes
  have hr := B.returns
  have hts := atoms_spec (ws := (Cond.code yX12_pointBest cX12_pointBest 3 (some .int) :: wsM)) B.pre
  have hown : s.vm.findClass RX12 = some m.cls := findClass_of_methodNamed B.named
  have hlocks := B.notSynchronized
  subst hsz
  have hD := hD0.self (sz := s.heap.size)
  generalize hAe : va_A (MW cI cJ cZ ad S) s.heap.size = A at hD ⊢
  have hA : ∀ q : Nat, s.heap.size ≤ q → A q := fun q h => by rw [← hAe]; exact Or.inr h
  have G : mG D cI cJ cZ ad A s.heap s.heap [] S := ⟨hP, hD, va_S.rf⟩
  have E : mE p c cX12_pointBest s m ([.ref (ad 0), .int a0, .int a1] : List Value).toArray (Cond.code yX12_pointBest cX12_pointBest 3 (some .int) :: wsM) D cI cJ cZ := ⟨hx, hb, hts, hown, hK, fun w h => .tail _ (iM_x h)⟩
  have hl := lv_entry ([.ref (ad 0), .int a0, .int a1]) (n := 3) (Nat.le_of_ble_eq_true rfl)
  rw [lg_entry_eq]
  generalize (lg_sl ([.ref (ad 0), .int a0, .int a1]) ++ List.replicate (3 - (lg_sl ([.ref (ad 0), .int a0, .int a1])).length) Slot.unset).toArray = ls at hl ⊢
  have hl : lv_has ls 3 [(0, .ref (ad 0)), (1, .int a0), (2, .int a1)] := hl
  unfold fr_pointBest at h
  refine lv_aload_n hx hb dX12_pointBest_0 rfl (lv_at hl 0 rfl) ?_
  refine lv_aload_n hx hb dX12_pointBest_1 rfl (lv_at hl 0 rfl) ?_
  refine lv_iload_n hx hb dX12_pointBest_2 rfl (lv_at hl 1 rfl) ?_
  obtain ⟨r5, S2, eS2, h⟩ := obind2_some h
  refine m_calli (As := [.int a0]) (rest := [.ref (ad 0)]) E G hA hR hml (tr_isCell l D cI cJ cZ ad S a0 eS2) (cwV 1 hts (gmV qM_326 qM_327 qM_328 qM_35 qM_307) rfl rfl rfl (by decide +kernel) ⟨Nat.le_of_ble_eq_true rfl, Nat.le_of_ble_eq_true rfl⟩) rfl hl.1 rfl (lv_room (Nat.le_of_ble_eq_true rfl)) dX12_pointBest_3 ⟨Nat.zero_le _, Nat.zero_le _⟩ (fun q3 S4 H locs hq G => ?_)
  obtain ⟨hq1, hq2⟩ := hq
  rw [hq2] at G
  refine lv_to hq1 ?_
  clear hq1 hq2 eS2
  obtain ⟨r9, S6, eS6, h⟩ := obind2_some h
  refine m_calli (As := [.int r5]) (rest := []) E G hA hR hml (tr_mayAsk l D cI cJ cZ ad S2 r5 eS6) (cwV 1 hts (gmV qM_319 qM_320 qM_321 qM_35 qM_304) rfl rfl rfl (by decide +kernel) ⟨Nat.le_of_ble_eq_true rfl, Nat.le_of_ble_eq_true rfl⟩) rfl hl.1 rfl (lv_room (Nat.le_of_ble_eq_true rfl)) dX12_pointBest_6 ⟨Nat.zero_le _, Nat.zero_le _⟩ (fun q7 S8 H locs hq G => ?_)
  obtain ⟨hq1, hq2⟩ := hq
  rw [hq2] at G
  refine lv_to hq1 ?_
  clear hq1 hq2 eS6
  refine lv_if_ne (tgt := 14) hx hb dX12_pointBest_9 (by decide) (fun c10 => ?_) (fun c10 => ?_)
  · have h := oif_neg c10 h
    refine lv_iload_n hx hb dX12_pointBest_14 rfl (lv_at hl 2 rfl) ?_
    obtain ⟨r11, er11, h⟩ := obind_some h
    refine m_stat (As := [.int a1]) (rest := []) ⟨hx, hb, hml, hown, hts⟩ (tr_isPeriod l a1 er11) (cwS 1 hts (gmS qM_386 qM_387 qM_35 qM_310) rfl rfl rfl (by decide +kernel) ⟨Nat.le_of_ble_eq_true rfl, Nat.le_of_ble_eq_true rfl⟩) rfl hl.1 rfl (lv_room (Nat.le_of_ble_eq_true rfl)) dX12_pointBest_15 ⟨Nat.zero_le _, Nat.zero_le _⟩ (fun q12 hq => ?_)
    refine lv_to hq ?_
    clear hq er11
    refine lv_if_ne (tgt := 27) hx hb dX12_pointBest_18 (by decide) (fun c13 => ?_) (fun c13 => ?_)
    · have h := oif_neg c13 h
      refine lv_aload_n hx hb dX12_pointBest_27 rfl (lv_at hl 0 rfl) ?_
      refine m_get E G 12 (v := .ref (ad 12)) (by decide) (.tail _ qM_9) rfl dX12_pointBest_28 rfl ?_
      refine lv_iconst (v := 0) hx hb dX12_pointBest_31 (by decide) ?_
      refine lv_aload_n hx hb dX12_pointBest_32 rfl (lv_at hl 0 rfl) ?_
      refine m_get E G 14 (v := .ref (ad 14)) (by decide) (.tail _ qM_11) rfl dX12_pointBest_33 rfl ?_
      refine lv_iconst (v := 0) hx hb dX12_pointBest_36 (by decide) ?_
      obtain ⟨S18, eS18, h⟩ := obind_some h
      refine m_calls (As := [.ref (ad 12), .int 0, .ref (ad 14), .int 0]) (rest := []) E G hA hR hml (tr_copy_12_14 l D cI cJ cZ ad S6 0 0 eS18) (cwS 4 hts (gmS qM_201 qM_202 qM_35 qM_203) rfl rfl rfl (by decide +kernel) ⟨Nat.le_of_ble_eq_true rfl, Nat.le_of_ble_eq_true rfl⟩) rfl hl.1 rfl (lv_room (Nat.le_of_ble_eq_true rfl)) dX12_pointBest_37 ⟨Nat.zero_le _, Nat.zero_le _⟩ (fun S20 H locs hq G => ?_)
      rw [hq] at G
      clear hq eS18
      refine lv_aload_n hx hb dX12_pointBest_40 rfl (lv_at hl 0 rfl) ?_
      refine lv_aload_n hx hb dX12_pointBest_41 rfl (lv_at hl 0 rfl) ?_
      refine m_get E G 14 (v := .ref (ad 14)) (by decide) (.tail _ qM_11) rfl dX12_pointBest_42 rfl ?_
      refine lv_iload_n hx hb dX12_pointBest_45 rfl (lv_at hl 1 rfl) ?_
      refine lv_iload_n hx hb dX12_pointBest_46 rfl (lv_at hl 2 rfl) ?_
      obtain ⟨S21, eS21, h⟩ := obind_some h
      refine m_callv (As := [.ref (ad 14), .int a0, .int a1]) (rest := []) E G hA hR hml (tr_recordsPoint_14 l D cI cJ cZ ad S18 a0 a1 eS21) (cwV 3 hts (gmV qM_473 qM_474 qM_475 qM_35 qM_269) rfl rfl rfl (by decide +kernel) ⟨Nat.le_of_ble_eq_true rfl, Nat.le_of_ble_eq_true rfl⟩) rfl hl.1 rfl (lv_room (Nat.le_of_ble_eq_true rfl)) dX12_pointBest_47 ⟨Nat.zero_le _, Nat.zero_le _⟩ (fun S23 H locs hq G => ?_)
      rw [hq] at G
      clear hq eS21
      refine lv_aload_n hx hb dX12_pointBest_50 rfl (lv_at hl 0 rfl) ?_
      refine lv_aload_n hx hb dX12_pointBest_51 rfl (lv_at hl 0 rfl) ?_
      refine m_get E G 14 (v := .ref (ad 14)) (by decide) (.tail _ qM_11) rfl dX12_pointBest_52 rfl ?_
      obtain ⟨r27, S24, eS24, h⟩ := obind2_some h
      refine m_calli (As := [.ref (ad 14)]) (rest := []) E G hA hR hml (tr_bestIn_14 l D cI cJ cZ ad S21 eS24) (cwV 1 hts (gmV qM_360 qM_361 qM_362 qM_35 qM_300) rfl rfl rfl (by decide +kernel) ⟨Nat.le_of_ble_eq_true rfl, Nat.le_of_ble_eq_true rfl⟩) rfl hl.1 rfl (lv_room (Nat.le_of_ble_eq_true rfl)) dX12_pointBest_55 ⟨Nat.zero_le _, Nat.zero_le _⟩ (fun q25 S26 H locs hq G => ?_)
      obtain ⟨hq1, hq2⟩ := hq
      rw [hq2] at G
      refine lv_to hq1 ?_
      clear hq1 hq2 eS24
      exact W.iret (v := r27) hx hb hr (fun t ht hW => ⟨⟨r27, S24, rfl, osome2 h, ⟨by rw [ht]; exact G.1, va_K.moved hW.alike hK, G.2.1⟩⟩, G.2.2.F ht⟩) G.2.2.2.2 dX12_pointBest_58
    · have h := oif_pos c13 h
      refine lv_aload_n hx hb dX12_pointBest_21 rfl (lv_at hl 0 rfl) ?_
      refine lv_iconst (v := 3) hx hb dX12_pointBest_22 (by decide) ?_
      obtain ⟨r17, S14, eS14, h⟩ := obind2_some h
      refine m_calli (As := [.int 3]) (rest := []) E G hA hR hml (tr_throwsAt l D cI cJ cZ ad S6 3 eS14) (cwV 1 hts (gmV qM_195 qM_196 qM_197 qM_35 qM_28) rfl rfl rfl (by decide +kernel) ⟨Nat.le_of_ble_eq_true rfl, Nat.le_of_ble_eq_true rfl⟩) rfl hl.1 rfl (lv_room (Nat.le_of_ble_eq_true rfl)) dX12_pointBest_23 ⟨Nat.zero_le _, Nat.zero_le _⟩ (fun q15 S16 H locs hq G => ?_)
      obtain ⟨hq1, hq2⟩ := hq
      rw [hq2] at G
      refine lv_to hq1 ?_
      clear hq1 hq2 eS14
      exact W.iret (v := r17) hx hb hr (fun t ht hW => ⟨⟨r17, S14, rfl, osome2 h, ⟨by rw [ht]; exact G.1, va_K.moved hW.alike hK, G.2.1⟩⟩, G.2.2.F ht⟩) G.2.2.2.2 dX12_pointBest_26
  · have h := oif_pos c10 h
    refine lv_iconst (v := 0) hx hb dX12_pointBest_12 (by decide) ?_
    exact W.iret (v := 0) hx hb hr (fun t ht hW => ⟨⟨0, S6, rfl, osome2 h, ⟨by rw [ht]; exact G.1, va_K.moved hW.alike hK, G.2.1⟩⟩, G.2.2.F ht⟩) G.2.2.2.2 dX12_pointBest_13
end
section
/-! 11j.dec8.lean.txt -/
def fr_pointPower_b22  (S : MS) (s0 : Int32) (l1 : Int32) (l2 : Int32) (l3 : Int32) : Option (Int64 × MS) := obind2 (fr_mayAsk S s0) fun r5 S2 => if r5 = 0 then (some ((0 : Int64), S2)) else (obind (fr_isPeriod l3) fun r7 => if r7 = 0 then (obind2 (fr_throwsAt S2 3) fun r13 S10 => elet (r13.toInt64) fun v14 => some (v14, S10)) else (obind (fr_copy_12_14 S2 0 0) fun S15 => obind (fr_recordsPoint_14 S15 l1 l3) fun S18 => obind2 (fr_powerOf_14 S18 l2) fun r24 S21 => some (r24, S21)))
set_option maxHeartbeats 4000000 in
set_option maxRecDepth 100000 in
theorem tr_pointPower_b22 {p : Program} {l : Launch} {e : Env} {s : State} {m : MethodId} {args : Array Value} {below : List Frame} {meth : Method} {c : Code} {Q : State → Prop} {D : va_G} {A : Nat → Prop} {H0 : Heap} {cI cJ cZ : ClassId} {ad : Nat → Nat} {r1 : Int64} {S1 : MS} (E : mE p c cX12_pointPower s m args (Cond.code yX12_pointPower cX12_pointPower 4 (some .long) :: wsM) D cI cJ cZ) (hA : ∀ q : Nat, H0.size ≤ q → A q) (hR : sR s) (hml : c.maxLocals = 4) (kr29 : ∀ (H : Heap) (locs : List Loc) (ls : Array Slot), mG D cI cJ cZ ad A H0 H locs S1 → W p l e { frames := 8, cells := 0, slots := 0, locals := 192 } s m args below meth c H locs 0 0 Q (F0 m 29 ls [.long r1])) (kr43 : ∀ (H : Heap) (locs : List Loc) (ls : Array Slot), mG D cI cJ cZ ad A H0 H locs S1 → W p l e { frames := 8, cells := 0, slots := 0, locals := 192 } s m args below meth c H locs 0 0 Q (F0 m 43 ls [.long r1])) (kr76 : ∀ (H : Heap) (locs : List Loc) (ls : Array Slot), mG D cI cJ cZ ad A H0 H locs S1 → W p l e { frames := 8, cells := 0, slots := 0, locals := 192 } s m args below meth c H locs 0 0 Q (F0 m 76 ls [.long r1])) : ∀ (S : MS) (H : Heap) (locs : List Loc) (ls : Array Slot) (s0 : Int32) (l1 : Int32) (l2 : Int32) (l3 : Int32), fr_pointPower_b22 S s0 l1 l2 l3 = some (r1, S1) → mG D cI cJ cZ ad A H0 H locs S → lv_has ls 4 [(0, .ref (ad 0)), (1, .int l1), (2, .int l2), (3, .int l3)] → W p l e { frames := 8, cells := 0, slots := 0, locals := 192 } s m args below meth c H locs 0 0 Q (F0 m 22 ls [.int s0, .ref (ad 0)]) := by
  have hx := E.1
  have hb := E.2.1
  have hts := E.2.2.1
  have hown := E.2.2.2.1
  have hK := E.2.2.2.2.1
  intro S H locs ls s0 l1 l2 l3 h G hl
  unfold fr_pointPower_b22 at h
  obtain ⟨r5, S2, eS2, h⟩ := obind2_some h
  refine m_calli (As := [.int s0]) (rest := []) E G hA hR hml (tr_mayAsk l D cI cJ cZ ad S s0 eS2) (cwV 1 hts (gmV qM_319 qM_320 qM_321 qM_35 qM_304) rfl rfl rfl (by decide +kernel) ⟨Nat.le_of_ble_eq_true rfl, Nat.le_of_ble_eq_true rfl⟩) rfl hl.1 rfl (lv_room (Nat.le_of_ble_eq_true rfl)) dX12_pointPower_22 ⟨Nat.zero_le _, Nat.zero_le _⟩ (fun q3 S4 H locs hq G => ?_)
  obtain ⟨hq1, hq2⟩ := hq
  rw [hq2] at G
  refine lv_to hq1 ?_
  clear hq1 hq2 eS2
  refine lv_if_ne (tgt := 30) hx hb dX12_pointPower_25 (by decide) (fun c6 => ?_) (fun c6 => ?_)
  · have h := oif_neg c6 h
    refine lv_iload_n hx hb dX12_pointPower_30 rfl (lv_at hl 3 rfl) ?_
    obtain ⟨r7, er7, h⟩ := obind_some h
    refine m_stat (As := [.int l3]) (rest := []) ⟨hx, hb, hml, hown, hts⟩ (tr_isPeriod l l3 er7) (cwS 1 hts (gmS qM_386 qM_387 qM_35 qM_310) rfl rfl rfl (by decide +kernel) ⟨Nat.le_of_ble_eq_true rfl, Nat.le_of_ble_eq_true rfl⟩) rfl hl.1 rfl (lv_room (Nat.le_of_ble_eq_true rfl)) dX12_pointPower_31 ⟨Nat.zero_le _, Nat.zero_le _⟩ (fun q8 hq => ?_)
    refine lv_to hq ?_
    clear hq er7
    refine lv_if_ne (tgt := 44) hx hb dX12_pointPower_34 (by decide) (fun c9 => ?_) (fun c9 => ?_)
    · have h := oif_neg c9 h
      refine lv_aload_n hx hb dX12_pointPower_44 rfl (lv_at hl 0 rfl) ?_
      refine m_get E G 12 (v := .ref (ad 12)) (by decide) (.tail _ qM_9) rfl dX12_pointPower_45 rfl ?_
      refine lv_iconst (v := 0) hx hb dX12_pointPower_48 (by decide) ?_
      refine lv_aload_n hx hb dX12_pointPower_49 rfl (lv_at hl 0 rfl) ?_
      refine m_get E G 14 (v := .ref (ad 14)) (by decide) (.tail _ qM_11) rfl dX12_pointPower_50 rfl ?_
      refine lv_iconst (v := 0) hx hb dX12_pointPower_53 (by decide) ?_
      obtain ⟨S15, eS15, h⟩ := obind_some h
      refine m_calls (As := [.ref (ad 12), .int 0, .ref (ad 14), .int 0]) (rest := []) E G hA hR hml (tr_copy_12_14 l D cI cJ cZ ad S2 0 0 eS15) (cwS 4 hts (gmS qM_201 qM_202 qM_35 qM_203) rfl rfl rfl (by decide +kernel) ⟨Nat.le_of_ble_eq_true rfl, Nat.le_of_ble_eq_true rfl⟩) rfl hl.1 rfl (lv_room (Nat.le_of_ble_eq_true rfl)) dX12_pointPower_54 ⟨Nat.zero_le _, Nat.zero_le _⟩ (fun S17 H locs hq G => ?_)
      rw [hq] at G
      clear hq eS15
      refine lv_aload_n hx hb dX12_pointPower_57 rfl (lv_at hl 0 rfl) ?_
      refine lv_aload_n hx hb dX12_pointPower_58 rfl (lv_at hl 0 rfl) ?_
      refine m_get E G 14 (v := .ref (ad 14)) (by decide) (.tail _ qM_11) rfl dX12_pointPower_59 rfl ?_
      refine lv_iload_n hx hb dX12_pointPower_62 rfl (lv_at hl 1 rfl) ?_
      refine lv_iload_n hx hb dX12_pointPower_63 rfl (lv_at hl 3 rfl) ?_
      obtain ⟨S18, eS18, h⟩ := obind_some h
      refine m_callv (As := [.ref (ad 14), .int l1, .int l3]) (rest := []) E G hA hR hml (tr_recordsPoint_14 l D cI cJ cZ ad S15 l1 l3 eS18) (cwV 3 hts (gmV qM_473 qM_474 qM_475 qM_35 qM_269) rfl rfl rfl (by decide +kernel) ⟨Nat.le_of_ble_eq_true rfl, Nat.le_of_ble_eq_true rfl⟩) rfl hl.1 rfl (lv_room (Nat.le_of_ble_eq_true rfl)) dX12_pointPower_64 ⟨Nat.zero_le _, Nat.zero_le _⟩ (fun S20 H locs hq G => ?_)
      rw [hq] at G
      clear hq eS18
      refine lv_aload_n hx hb dX12_pointPower_67 rfl (lv_at hl 0 rfl) ?_
      refine lv_aload_n hx hb dX12_pointPower_68 rfl (lv_at hl 0 rfl) ?_
      refine m_get E G 14 (v := .ref (ad 14)) (by decide) (.tail _ qM_11) rfl dX12_pointPower_69 rfl ?_
      refine lv_iload_n hx hb dX12_pointPower_72 rfl (lv_at hl 2 rfl) ?_
      obtain ⟨r24, S21, eS21, h⟩ := obind2_some h
      refine m_calll (As := [.ref (ad 14), .int l2]) (rest := []) E G hA hR hml (tr_powerOf_14 l D cI cJ cZ ad S18 l2 eS21) (cwV 2 hts (gmV qM_297 qM_298 qM_299 qM_35 qM_289) rfl rfl rfl (by decide +kernel) ⟨Nat.le_of_ble_eq_true rfl, Nat.le_of_ble_eq_true rfl⟩) rfl hl.1 rfl (lv_room (Nat.le_of_ble_eq_true rfl)) dX12_pointPower_73 ⟨Nat.zero_le _, Nat.zero_le _⟩ (fun q22 S23 H locs hq G => ?_)
      obtain ⟨hq1, hq2⟩ := hq
      rw [hq2] at G
      refine lv_tol hq1 ?_
      clear hq1 hq2 eS21
      rw [(osome2 h).2] at G
      refine lv_tol (osome2 h).1 ?_
      exact kr76 _ _ _ G
    · have h := oif_pos c9 h
      refine lv_aload_n hx hb dX12_pointPower_37 rfl (lv_at hl 0 rfl) ?_
      refine lv_iconst (v := 3) hx hb dX12_pointPower_38 (by decide) ?_
      obtain ⟨r13, S10, eS10, h⟩ := obind2_some h
      refine m_calli (As := [.int 3]) (rest := []) E G hA hR hml (tr_throwsAt l D cI cJ cZ ad S2 3 eS10) (cwV 1 hts (gmV qM_195 qM_196 qM_197 qM_35 qM_28) rfl rfl rfl (by decide +kernel) ⟨Nat.le_of_ble_eq_true rfl, Nat.le_of_ble_eq_true rfl⟩) rfl hl.1 rfl (lv_room (Nat.le_of_ble_eq_true rfl)) dX12_pointPower_39 ⟨Nat.zero_le _, Nat.zero_le _⟩ (fun q11 S12 H locs hq G => ?_)
      obtain ⟨hq1, hq2⟩ := hq
      rw [hq2] at G
      refine lv_to hq1 ?_
      clear hq1 hq2 eS10
      refine lv_i2l (v := r13.toInt64) hx hb dX12_pointPower_42 rfl ?_
      refine lv_topl (fun v14 ev14 => ?_)
      have h := elet_at ev14 h
      clear ev14
      rw [(osome2 h).2] at G
      refine lv_tol (osome2 h).1 ?_
      exact kr43 _ _ _ G
  · have h := oif_pos c6 h
    refine lv_lconst (v := 0) hx hb dX12_pointPower_28 (by decide) ?_
    rw [(osome2 h).2] at G
    refine lv_tol (osome2 h).1 ?_
    exact kr29 _ _ _ G
def fr_pointPower_b21  (S : MS) (l1 : Int32) (l2 : Int32) (l3 : Int32) : Option (Int64 × MS) := fr_pointPower_b22 S 0 l1 l2 l3
set_option maxHeartbeats 4000000 in
set_option maxRecDepth 100000 in
theorem tr_pointPower_b21 {p : Program} {l : Launch} {e : Env} {s : State} {m : MethodId} {args : Array Value} {below : List Frame} {meth : Method} {c : Code} {Q : State → Prop} {D : va_G} {A : Nat → Prop} {H0 : Heap} {cI cJ cZ : ClassId} {ad : Nat → Nat} {r1 : Int64} {S1 : MS} (E : mE p c cX12_pointPower s m args (Cond.code yX12_pointPower cX12_pointPower 4 (some .long) :: wsM) D cI cJ cZ) (hA : ∀ q : Nat, H0.size ≤ q → A q) (hR : sR s) (hml : c.maxLocals = 4) (kr29 : ∀ (H : Heap) (locs : List Loc) (ls : Array Slot), mG D cI cJ cZ ad A H0 H locs S1 → W p l e { frames := 8, cells := 0, slots := 0, locals := 192 } s m args below meth c H locs 0 0 Q (F0 m 29 ls [.long r1])) (kr43 : ∀ (H : Heap) (locs : List Loc) (ls : Array Slot), mG D cI cJ cZ ad A H0 H locs S1 → W p l e { frames := 8, cells := 0, slots := 0, locals := 192 } s m args below meth c H locs 0 0 Q (F0 m 43 ls [.long r1])) (kr76 : ∀ (H : Heap) (locs : List Loc) (ls : Array Slot), mG D cI cJ cZ ad A H0 H locs S1 → W p l e { frames := 8, cells := 0, slots := 0, locals := 192 } s m args below meth c H locs 0 0 Q (F0 m 76 ls [.long r1])) : ∀ (S : MS) (H : Heap) (locs : List Loc) (ls : Array Slot) (l1 : Int32) (l2 : Int32) (l3 : Int32), fr_pointPower_b21 S l1 l2 l3 = some (r1, S1) → mG D cI cJ cZ ad A H0 H locs S → lv_has ls 4 [(0, .ref (ad 0)), (1, .int l1), (2, .int l2), (3, .int l3)] → W p l e { frames := 8, cells := 0, slots := 0, locals := 192 } s m args below meth c H locs 0 0 Q (F0 m 21 ls [.ref (ad 0)]) := by
  have hx := E.1
  have hb := E.2.1
  have hts := E.2.2.1
  have hown := E.2.2.2.1
  have hK := E.2.2.2.2.1
  intro S H locs ls l1 l2 l3 h G hl
  unfold fr_pointPower_b21 at h
  refine lv_iconst (v := 0) hx hb dX12_pointPower_21 (by decide) ?_
  have hl := lv_sub hl [0, 1, 2, 3] rfl
  exact tr_pointPower_b22 E hA hR hml kr29 kr43 kr76 _ _ _ _ _ _ _ _ h G hl
def fr_pointPower (S : MS) (a0 : Int32) (a1 : Int32) (a2 : Int32) : Option (Int64 × MS) := obind2 (fr_isCell S a0) fun r5 S2 => if r5 = 0 then (fr_pointPower_b21 S2 a0 a1 a2) else (obind2 (fr_isCell S2 a1) fun r10 S7 => if r10 = 0 then (fr_pointPower_b21 S7 a0 a1 a2) else (fr_pointPower_b22 S7 1 a0 a1 a2))
set_option maxHeartbeats 4000000 in
set_option maxRecDepth 100000 in
theorem tr_pointPower (l : Launch) (D : va_G) (cI cJ cZ : ClassId) (ad : Nat → Nat) (S : MS) (a0 : Int32) (a1 : Int32) (a2 : Int32) {r1 : Int64} {S1 : MS} (h : fr_pointPower S a0 a1 a2 = some (r1, S1)) : mCl l yX12_pointPower (Cond.code yX12_pointPower cX12_pointPower 4 (some .long) :: wsM) 8 192 D cI cJ cZ ad S [.int a0, .int a1, .int a2] (fun r S9 => r = r1 ∧ S9 = S1) := by
  intro sz
  refine Met.ofW (cc := cX12_pointPower) (maxL := 4) (ret := (some .long)) (by decide) rfl ?_
  intro p e s m args below meth c s₁ B hml hv
  obtain ⟨rfl, hsz, hP, hK, hD0, hR⟩ := hv
  have hx := B.exec
  have hb := B.bytes
  have hr := B.returns
  have hts := atoms_spec (ws := (Cond.code yX12_pointPower cX12_pointPower 4 (some .long) :: wsM)) B.pre
  have hown : s.vm.findClass RX12 = some m.cls := findClass_of_methodNamed B.named
  have hlocks := B.notSynchronized
  subst hsz
  have hD := hD0.self (sz := s.heap.size)
  generalize hAe : va_A (MW cI cJ cZ ad S) s.heap.size = A at hD ⊢
  have hA : ∀ q : Nat, s.heap.size ≤ q → A q := fun q h => by rw [← hAe]; exact Or.inr h
  have G : mG D cI cJ cZ ad A s.heap s.heap [] S := ⟨hP, hD, va_S.rf⟩
  have E : mE p c cX12_pointPower s m ([.ref (ad 0), .int a0, .int a1, .int a2] : List Value).toArray (Cond.code yX12_pointPower cX12_pointPower 4 (some .long) :: wsM) D cI cJ cZ := ⟨hx, hb, hts, hown, hK, fun w h => .tail _ (iM_x h)⟩
  have hl := lv_entry ([.ref (ad 0), .int a0, .int a1, .int a2]) (n := 4) (Nat.le_of_ble_eq_true rfl)
  rw [lg_entry_eq]
  generalize (lg_sl ([.ref (ad 0), .int a0, .int a1, .int a2]) ++ List.replicate (4 - (lg_sl ([.ref (ad 0), .int a0, .int a1, .int a2])).length) Slot.unset).toArray = ls at hl ⊢
  have hl : lv_has ls 4 [(0, .ref (ad 0)), (1, .int a0), (2, .int a1), (3, .int a2)] := hl
  unfold fr_pointPower at h
  refine lv_aload_n hx hb dX12_pointPower_0 rfl (lv_at hl 0 rfl) ?_
  refine lv_aload_n hx hb dX12_pointPower_1 rfl (lv_at hl 0 rfl) ?_
  refine lv_iload_n hx hb dX12_pointPower_2 rfl (lv_at hl 1 rfl) ?_
  obtain ⟨r5, S2, eS2, h⟩ := obind2_some h
  refine m_calli (As := [.int a0]) (rest := [.ref (ad 0)]) E G hA hR hml (tr_isCell l D cI cJ cZ ad S a0 eS2) (cwV 1 hts (gmV qM_326 qM_327 qM_328 qM_35 qM_307) rfl rfl rfl (by decide +kernel) ⟨Nat.le_of_ble_eq_true rfl, Nat.le_of_ble_eq_true rfl⟩) rfl hl.1 rfl (lv_room (Nat.le_of_ble_eq_true rfl)) dX12_pointPower_3 ⟨Nat.zero_le _, Nat.zero_le _⟩ (fun q3 S4 H locs hq G => ?_)
  obtain ⟨hq1, hq2⟩ := hq
  rw [hq2] at G
  refine lv_to hq1 ?_
  clear hq1 hq2 eS2
  refine lv_if_eq (tgt := 21) hx hb dX12_pointPower_6 (by decide) (fun c6 => ?_) (fun c6 => ?_)
  · have h := oif_pos c6 h
    have hl := lv_sub hl [0, 1, 2, 3] rfl
    exact tr_pointPower_b21 E hA hR hml (fun H locs ls G => W.lret (v := r1) hx hb hr (fun t ht hW => ⟨⟨r1, S1, rfl, ⟨rfl, rfl⟩, ⟨by rw [ht]; exact G.1, va_K.moved hW.alike hK, G.2.1⟩⟩, G.2.2.F ht⟩) G.2.2.2.2 dX12_pointPower_29) (fun H locs ls G => W.lret (v := r1) hx hb hr (fun t ht hW => ⟨⟨r1, S1, rfl, ⟨rfl, rfl⟩, ⟨by rw [ht]; exact G.1, va_K.moved hW.alike hK, G.2.1⟩⟩, G.2.2.F ht⟩) G.2.2.2.2 dX12_pointPower_43) (fun H locs ls G => W.lret (v := r1) hx hb hr (fun t ht hW => ⟨⟨r1, S1, rfl, ⟨rfl, rfl⟩, ⟨by rw [ht]; exact G.1, va_K.moved hW.alike hK, G.2.1⟩⟩, G.2.2.F ht⟩) G.2.2.2.2 dX12_pointPower_76) _ _ _ _ _ _ _ h G hl
  · have h := oif_neg c6 h
    refine lv_aload_n hx hb dX12_pointPower_9 rfl (lv_at hl 0 rfl) ?_
    refine lv_iload_n hx hb dX12_pointPower_10 rfl (lv_at hl 2 rfl) ?_
    obtain ⟨r10, S7, eS7, h⟩ := obind2_some h
    refine m_calli (As := [.int a1]) (rest := [.ref (ad 0)]) E G hA hR hml (tr_isCell l D cI cJ cZ ad S2 a1 eS7) (cwV 1 hts (gmV qM_326 qM_327 qM_328 qM_35 qM_307) rfl rfl rfl (by decide +kernel) ⟨Nat.le_of_ble_eq_true rfl, Nat.le_of_ble_eq_true rfl⟩) rfl hl.1 rfl (lv_room (Nat.le_of_ble_eq_true rfl)) dX12_pointPower_11 ⟨Nat.zero_le _, Nat.zero_le _⟩ (fun q8 S9 H locs hq G => ?_)
    obtain ⟨hq1, hq2⟩ := hq
    rw [hq2] at G
    refine lv_to hq1 ?_
    clear hq1 hq2 eS7
    refine lv_if_eq (tgt := 21) hx hb dX12_pointPower_14 (by decide) (fun c11 => ?_) (fun c11 => ?_)
    · have h := oif_pos c11 h
      have hl := lv_sub hl [0, 1, 2, 3] rfl
      exact tr_pointPower_b21 E hA hR hml (fun H locs ls G => W.lret (v := r1) hx hb hr (fun t ht hW => ⟨⟨r1, S1, rfl, ⟨rfl, rfl⟩, ⟨by rw [ht]; exact G.1, va_K.moved hW.alike hK, G.2.1⟩⟩, G.2.2.F ht⟩) G.2.2.2.2 dX12_pointPower_29) (fun H locs ls G => W.lret (v := r1) hx hb hr (fun t ht hW => ⟨⟨r1, S1, rfl, ⟨rfl, rfl⟩, ⟨by rw [ht]; exact G.1, va_K.moved hW.alike hK, G.2.1⟩⟩, G.2.2.F ht⟩) G.2.2.2.2 dX12_pointPower_43) (fun H locs ls G => W.lret (v := r1) hx hb hr (fun t ht hW => ⟨⟨r1, S1, rfl, ⟨rfl, rfl⟩, ⟨by rw [ht]; exact G.1, va_K.moved hW.alike hK, G.2.1⟩⟩, G.2.2.F ht⟩) G.2.2.2.2 dX12_pointPower_76) _ _ _ _ _ _ _ h G hl
    · have h := oif_neg c11 h
      refine lv_iconst (v := 1) hx hb dX12_pointPower_17 (by decide) ?_
      refine lv_goto (tgt := 22) hx hb dX12_pointPower_18 (by decide) ?_
      have hl := lv_sub hl [0, 1, 2, 3] rfl
      exact tr_pointPower_b22 E hA hR hml (fun H locs ls G => W.lret (v := r1) hx hb hr (fun t ht hW => ⟨⟨r1, S1, rfl, ⟨rfl, rfl⟩, ⟨by rw [ht]; exact G.1, va_K.moved hW.alike hK, G.2.1⟩⟩, G.2.2.F ht⟩) G.2.2.2.2 dX12_pointPower_29) (fun H locs ls G => W.lret (v := r1) hx hb hr (fun t ht hW => ⟨⟨r1, S1, rfl, ⟨rfl, rfl⟩, ⟨by rw [ht]; exact G.1, va_K.moved hW.alike hK, G.2.1⟩⟩, G.2.2.F ht⟩) G.2.2.2.2 dX12_pointPower_43) (fun H locs ls G => W.lret (v := r1) hx hb hr (fun t ht hW => ⟨⟨r1, S1, rfl, ⟨rfl, rfl⟩, ⟨by rw [ht]; exact G.1, va_K.moved hW.alike hK, G.2.1⟩⟩, G.2.2.F ht⟩) G.2.2.2.2 dX12_pointPower_76) _ _ _ _ _ _ _ _ h G hl
def fr_bestWithout (S : MS) (a0 : Int32) : Option (Int32 × MS) := obind2 (fr_isMic S a0) fun r5 S2 => obind2 (fr_mayAsk S2 r5) fun r9 S6 => if r9 = 0 then (some (0, S6)) else (obind (fr_copy_12_14 S6 0 0) fun S11 => elet (1 + a0) fun v14 => oif (inb v14 2455 = true) <| elet (mf S11 14 (upd (S11.2.1 14) v14.toNatClampNeg 1)) fun S16 => obind2 (fr_bestIn_14 S16) fun r20 S17 => some (r20, S17))
set_option maxHeartbeats 4000000 in
set_option maxRecDepth 100000 in
theorem tr_bestWithout (l : Launch) (D : va_G) (cI cJ cZ : ClassId) (ad : Nat → Nat) (S : MS) (a0 : Int32) {r1 : Int32} {S1 : MS} (h : fr_bestWithout S a0 = some (r1, S1)) : mCi l yX12_bestWithout (Cond.code yX12_bestWithout cX12_bestWithout 2 (some .int) :: wsM) 8 163 D cI cJ cZ ad S [.int a0] (fun r S9 => r = r1 ∧ S9 = S1) := by
  intro sz
  refine Met.ofW (cc := cX12_bestWithout) (maxL := 2) (ret := (some .int)) (by decide) rfl ?_
  intro p e s m args below meth c s₁ B hml hv
  obtain ⟨rfl, hsz, hP, hK, hD0, hR⟩ := hv
  have hx := B.exec
  have hb := B.bytes
  have hr := B.returns
  have hts := atoms_spec (ws := (Cond.code yX12_bestWithout cX12_bestWithout 2 (some .int) :: wsM)) B.pre
  have hown : s.vm.findClass RX12 = some m.cls := findClass_of_methodNamed B.named
  have hlocks := B.notSynchronized
  subst hsz
  have hD := hD0.self (sz := s.heap.size)
  generalize hAe : va_A (MW cI cJ cZ ad S) s.heap.size = A at hD ⊢
  have hA : ∀ q : Nat, s.heap.size ≤ q → A q := fun q h => by rw [← hAe]; exact Or.inr h
  have G : mG D cI cJ cZ ad A s.heap s.heap [] S := ⟨hP, hD, va_S.rf⟩
  have E : mE p c cX12_bestWithout s m ([.ref (ad 0), .int a0] : List Value).toArray (Cond.code yX12_bestWithout cX12_bestWithout 2 (some .int) :: wsM) D cI cJ cZ := ⟨hx, hb, hts, hown, hK, fun w h => .tail _ (iM_x h)⟩
  have hl := lv_entry ([.ref (ad 0), .int a0]) (n := 2) (Nat.le_of_ble_eq_true rfl)
  rw [lg_entry_eq]
  generalize (lg_sl ([.ref (ad 0), .int a0]) ++ List.replicate (2 - (lg_sl ([.ref (ad 0), .int a0])).length) Slot.unset).toArray = ls at hl ⊢
  have hl : lv_has ls 2 [(0, .ref (ad 0)), (1, .int a0)] := hl
  unfold fr_bestWithout at h
  refine lv_aload_n hx hb dX12_bestWithout_0 rfl (lv_at hl 0 rfl) ?_
  refine lv_aload_n hx hb dX12_bestWithout_1 rfl (lv_at hl 0 rfl) ?_
  refine lv_iload_n hx hb dX12_bestWithout_2 rfl (lv_at hl 1 rfl) ?_
  obtain ⟨r5, S2, eS2, h⟩ := obind2_some h
  refine m_calli (As := [.int a0]) (rest := [.ref (ad 0)]) E G hA hR hml (tr_isMic l D cI cJ cZ ad S a0 eS2) (cwV 1 hts (gmV qM_316 qM_317 qM_318 qM_35 qM_306) rfl rfl rfl (by decide +kernel) ⟨Nat.le_of_ble_eq_true rfl, Nat.le_of_ble_eq_true rfl⟩) rfl hl.1 rfl (lv_room (Nat.le_of_ble_eq_true rfl)) dX12_bestWithout_3 ⟨Nat.zero_le _, Nat.zero_le _⟩ (fun q3 S4 H locs hq G => ?_)
  obtain ⟨hq1, hq2⟩ := hq
  rw [hq2] at G
  refine lv_to hq1 ?_
  clear hq1 hq2 eS2
  obtain ⟨r9, S6, eS6, h⟩ := obind2_some h
  refine m_calli (As := [.int r5]) (rest := []) E G hA hR hml (tr_mayAsk l D cI cJ cZ ad S2 r5 eS6) (cwV 1 hts (gmV qM_319 qM_320 qM_321 qM_35 qM_304) rfl rfl rfl (by decide +kernel) ⟨Nat.le_of_ble_eq_true rfl, Nat.le_of_ble_eq_true rfl⟩) rfl hl.1 rfl (lv_room (Nat.le_of_ble_eq_true rfl)) dX12_bestWithout_6 ⟨Nat.zero_le _, Nat.zero_le _⟩ (fun q7 S8 H locs hq G => ?_)
  obtain ⟨hq1, hq2⟩ := hq
  rw [hq2] at G
  refine lv_to hq1 ?_
  clear hq1 hq2 eS6
  refine lv_if_ne (tgt := 14) hx hb dX12_bestWithout_9 (by decide) (fun c10 => ?_) (fun c10 => ?_)
  · have h := oif_neg c10 h
    refine lv_aload_n hx hb dX12_bestWithout_14 rfl (lv_at hl 0 rfl) ?_
    refine m_get E G 12 (v := .ref (ad 12)) (by decide) (.tail _ qM_9) rfl dX12_bestWithout_15 rfl ?_
    refine lv_iconst (v := 0) hx hb dX12_bestWithout_18 (by decide) ?_
    refine lv_aload_n hx hb dX12_bestWithout_19 rfl (lv_at hl 0 rfl) ?_
    refine m_get E G 14 (v := .ref (ad 14)) (by decide) (.tail _ qM_11) rfl dX12_bestWithout_20 rfl ?_
    refine lv_iconst (v := 0) hx hb dX12_bestWithout_23 (by decide) ?_
    obtain ⟨S11, eS11, h⟩ := obind_some h
    refine m_calls (As := [.ref (ad 12), .int 0, .ref (ad 14), .int 0]) (rest := []) E G hA hR hml (tr_copy_12_14 l D cI cJ cZ ad S6 0 0 eS11) (cwS 4 hts (gmS qM_201 qM_202 qM_35 qM_203) rfl rfl rfl (by decide +kernel) ⟨Nat.le_of_ble_eq_true rfl, Nat.le_of_ble_eq_true rfl⟩) rfl hl.1 rfl (lv_room (Nat.le_of_ble_eq_true rfl)) dX12_bestWithout_24 ⟨Nat.zero_le _, Nat.zero_le _⟩ (fun S13 H locs hq G => ?_)
    rw [hq] at G
    clear hq eS11
    refine lv_aload_n hx hb dX12_bestWithout_27 rfl (lv_at hl 0 rfl) ?_
    refine m_get E G 14 (v := .ref (ad 14)) (by decide) (.tail _ qM_11) rfl dX12_bestWithout_28 rfl ?_
    refine lv_iconst (v := 1) hx hb dX12_bestWithout_31 (by decide) ?_
    refine lv_iload_n hx hb dX12_bestWithout_32 rfl (lv_at hl 1 rfl) ?_
    refine lv_iadd hx hb dX12_bestWithout_33 ?_
    refine lv_topi (fun v14 ev14 => ?_)
    have h := elet_at ev14 h
    clear ev14
    refine lv_iconst (v := 1) hx hb dX12_bestWithout_34 (by decide) ?_
    obtain ⟨g15, h⟩ := oif_some h
    refine m_iast E G 14 6 (k := v14.toNatClampNeg) (v := 1) rfl (fun _ => rfl) (inb_k g15).1 (inb_k g15).2 (by decide) dX12_bestWithout_35 (fun H locs G => ?_)
    obtain ⟨S16, eS16, h⟩ := elet_some h
    rw [← eS16] at G
    clear eS16
    refine lv_aload_n hx hb dX12_bestWithout_36 rfl (lv_at hl 0 rfl) ?_
    refine lv_aload_n hx hb dX12_bestWithout_37 rfl (lv_at hl 0 rfl) ?_
    refine m_get E G 14 (v := .ref (ad 14)) (by decide) (.tail _ qM_11) rfl dX12_bestWithout_38 rfl ?_
    obtain ⟨r20, S17, eS17, h⟩ := obind2_some h
    refine m_calli (As := [.ref (ad 14)]) (rest := []) E G hA hR hml (tr_bestIn_14 l D cI cJ cZ ad S16 eS17) (cwV 1 hts (gmV qM_360 qM_361 qM_362 qM_35 qM_300) rfl rfl rfl (by decide +kernel) ⟨Nat.le_of_ble_eq_true rfl, Nat.le_of_ble_eq_true rfl⟩) rfl hl.1 rfl (lv_room (Nat.le_of_ble_eq_true rfl)) dX12_bestWithout_41 ⟨Nat.zero_le _, Nat.zero_le _⟩ (fun q18 S19 H locs hq G => ?_)
    obtain ⟨hq1, hq2⟩ := hq
    rw [hq2] at G
    refine lv_to hq1 ?_
    clear hq1 hq2 eS17
    exact W.iret (v := r20) hx hb hr (fun t ht hW => ⟨⟨r20, S17, rfl, osome2 h, ⟨by rw [ht]; exact G.1, va_K.moved hW.alike hK, G.2.1⟩⟩, G.2.2.F ht⟩) G.2.2.2.2 dX12_bestWithout_44
  · have h := oif_pos c10 h
    refine lv_iconst (v := 0) hx hb dX12_bestWithout_12 (by decide) ?_
    exact W.iret (v := 0) hx hb hr (fun t ht hW => ⟨⟨0, S6, rfl, osome2 h, ⟨by rw [ht]; exact G.1, va_K.moved hW.alike hK, G.2.1⟩⟩, G.2.2.F ht⟩) G.2.2.2.2 dX12_bestWithout_13
def fr_bestIfOff (S : MS) (a0 : Int32) : Option (Int32 × MS) := obind2 (fr_isSource S a0) fun r5 S2 => obind2 (fr_mayAsk S2 r5) fun r9 S6 => if r9 = 0 then (some (0, S6)) else (obind (fr_copy_12_14 S6 0 0) fun S11 => elet (25 + a0) fun v14 => oif (inb v14 2455 = true) <| elet (mf S11 14 (upd (S11.2.1 14) v14.toNatClampNeg 0)) fun S16 => obind (fr_records_14 S16) fun S17 => obind2 (fr_bestIn_14 S17) fun r23 S20 => some (r23, S20))
set_option maxHeartbeats 4000000 in
set_option maxRecDepth 100000 in
theorem tr_bestIfOff (l : Launch) (D : va_G) (cI cJ cZ : ClassId) (ad : Nat → Nat) (S : MS) (a0 : Int32) {r1 : Int32} {S1 : MS} (h : fr_bestIfOff S a0 = some (r1, S1)) : mCi l yX12_bestIfOff (Cond.code yX12_bestIfOff cX12_bestIfOff 2 (some .int) :: wsM) 8 169 D cI cJ cZ ad S [.int a0] (fun r S9 => r = r1 ∧ S9 = S1) := by
  intro sz
  refine Met.ofW (cc := cX12_bestIfOff) (maxL := 2) (ret := (some .int)) (by decide) rfl ?_
  intro p e s m args below meth c s₁ B hml hv
  obtain ⟨rfl, hsz, hP, hK, hD0, hR⟩ := hv
  have hx := B.exec
  have hb := B.bytes
  have hr := B.returns
  have hts := atoms_spec (ws := (Cond.code yX12_bestIfOff cX12_bestIfOff 2 (some .int) :: wsM)) B.pre
  have hown : s.vm.findClass RX12 = some m.cls := findClass_of_methodNamed B.named
  have hlocks := B.notSynchronized
  subst hsz
  have hD := hD0.self (sz := s.heap.size)
  generalize hAe : va_A (MW cI cJ cZ ad S) s.heap.size = A at hD ⊢
  have hA : ∀ q : Nat, s.heap.size ≤ q → A q := fun q h => by rw [← hAe]; exact Or.inr h
  have G : mG D cI cJ cZ ad A s.heap s.heap [] S := ⟨hP, hD, va_S.rf⟩
  have E : mE p c cX12_bestIfOff s m ([.ref (ad 0), .int a0] : List Value).toArray (Cond.code yX12_bestIfOff cX12_bestIfOff 2 (some .int) :: wsM) D cI cJ cZ := ⟨hx, hb, hts, hown, hK, fun w h => .tail _ (iM_x h)⟩
  have hl := lv_entry ([.ref (ad 0), .int a0]) (n := 2) (Nat.le_of_ble_eq_true rfl)
  rw [lg_entry_eq]
  generalize (lg_sl ([.ref (ad 0), .int a0]) ++ List.replicate (2 - (lg_sl ([.ref (ad 0), .int a0])).length) Slot.unset).toArray = ls at hl ⊢
  have hl : lv_has ls 2 [(0, .ref (ad 0)), (1, .int a0)] := hl
  unfold fr_bestIfOff at h
  refine lv_aload_n hx hb dX12_bestIfOff_0 rfl (lv_at hl 0 rfl) ?_
  refine lv_aload_n hx hb dX12_bestIfOff_1 rfl (lv_at hl 0 rfl) ?_
  refine lv_iload_n hx hb dX12_bestIfOff_2 rfl (lv_at hl 1 rfl) ?_
  obtain ⟨r5, S2, eS2, h⟩ := obind2_some h
  refine m_calli (As := [.int a0]) (rest := [.ref (ad 0)]) E G hA hR hml (tr_isSource l D cI cJ cZ ad S a0 eS2) (cwV 1 hts (gmV qM_331 qM_332 qM_333 qM_35 qM_308) rfl rfl rfl (by decide +kernel) ⟨Nat.le_of_ble_eq_true rfl, Nat.le_of_ble_eq_true rfl⟩) rfl hl.1 rfl (lv_room (Nat.le_of_ble_eq_true rfl)) dX12_bestIfOff_3 ⟨Nat.zero_le _, Nat.zero_le _⟩ (fun q3 S4 H locs hq G => ?_)
  obtain ⟨hq1, hq2⟩ := hq
  rw [hq2] at G
  refine lv_to hq1 ?_
  clear hq1 hq2 eS2
  obtain ⟨r9, S6, eS6, h⟩ := obind2_some h
  refine m_calli (As := [.int r5]) (rest := []) E G hA hR hml (tr_mayAsk l D cI cJ cZ ad S2 r5 eS6) (cwV 1 hts (gmV qM_319 qM_320 qM_321 qM_35 qM_304) rfl rfl rfl (by decide +kernel) ⟨Nat.le_of_ble_eq_true rfl, Nat.le_of_ble_eq_true rfl⟩) rfl hl.1 rfl (lv_room (Nat.le_of_ble_eq_true rfl)) dX12_bestIfOff_6 ⟨Nat.zero_le _, Nat.zero_le _⟩ (fun q7 S8 H locs hq G => ?_)
  obtain ⟨hq1, hq2⟩ := hq
  rw [hq2] at G
  refine lv_to hq1 ?_
  clear hq1 hq2 eS6
  refine lv_if_ne (tgt := 14) hx hb dX12_bestIfOff_9 (by decide) (fun c10 => ?_) (fun c10 => ?_)
  · have h := oif_neg c10 h
    refine lv_aload_n hx hb dX12_bestIfOff_14 rfl (lv_at hl 0 rfl) ?_
    refine m_get E G 12 (v := .ref (ad 12)) (by decide) (.tail _ qM_9) rfl dX12_bestIfOff_15 rfl ?_
    refine lv_iconst (v := 0) hx hb dX12_bestIfOff_18 (by decide) ?_
    refine lv_aload_n hx hb dX12_bestIfOff_19 rfl (lv_at hl 0 rfl) ?_
    refine m_get E G 14 (v := .ref (ad 14)) (by decide) (.tail _ qM_11) rfl dX12_bestIfOff_20 rfl ?_
    refine lv_iconst (v := 0) hx hb dX12_bestIfOff_23 (by decide) ?_
    obtain ⟨S11, eS11, h⟩ := obind_some h
    refine m_calls (As := [.ref (ad 12), .int 0, .ref (ad 14), .int 0]) (rest := []) E G hA hR hml (tr_copy_12_14 l D cI cJ cZ ad S6 0 0 eS11) (cwS 4 hts (gmS qM_201 qM_202 qM_35 qM_203) rfl rfl rfl (by decide +kernel) ⟨Nat.le_of_ble_eq_true rfl, Nat.le_of_ble_eq_true rfl⟩) rfl hl.1 rfl (lv_room (Nat.le_of_ble_eq_true rfl)) dX12_bestIfOff_24 ⟨Nat.zero_le _, Nat.zero_le _⟩ (fun S13 H locs hq G => ?_)
    rw [hq] at G
    clear hq eS11
    refine lv_aload_n hx hb dX12_bestIfOff_27 rfl (lv_at hl 0 rfl) ?_
    refine m_get E G 14 (v := .ref (ad 14)) (by decide) (.tail _ qM_11) rfl dX12_bestIfOff_28 rfl ?_
    refine lv_bipush (v := 25) hx hb dX12_bestIfOff_31 (by decide) ?_
    refine lv_iload_n hx hb dX12_bestIfOff_33 rfl (lv_at hl 1 rfl) ?_
    refine lv_iadd hx hb dX12_bestIfOff_34 ?_
    refine lv_topi (fun v14 ev14 => ?_)
    have h := elet_at ev14 h
    clear ev14
    refine lv_iconst (v := 0) hx hb dX12_bestIfOff_35 (by decide) ?_
    obtain ⟨g15, h⟩ := oif_some h
    refine m_iast E G 14 6 (k := v14.toNatClampNeg) (v := 0) rfl (fun _ => rfl) (inb_k g15).1 (inb_k g15).2 (by decide) dX12_bestIfOff_36 (fun H locs G => ?_)
    obtain ⟨S16, eS16, h⟩ := elet_some h
    rw [← eS16] at G
    clear eS16
    refine lv_aload_n hx hb dX12_bestIfOff_37 rfl (lv_at hl 0 rfl) ?_
    refine lv_aload_n hx hb dX12_bestIfOff_38 rfl (lv_at hl 0 rfl) ?_
    refine m_get E G 14 (v := .ref (ad 14)) (by decide) (.tail _ qM_11) rfl dX12_bestIfOff_39 rfl ?_
    obtain ⟨S17, eS17, h⟩ := obind_some h
    refine m_callv (As := [.ref (ad 14)]) (rest := []) E G hA hR hml (tr_records_14 l D cI cJ cZ ad S16 eS17) (cwV 1 hts (gmV qM_220 qM_221 qM_222 qM_35 qM_223) rfl rfl rfl (by decide +kernel) ⟨Nat.le_of_ble_eq_true rfl, Nat.le_of_ble_eq_true rfl⟩) rfl hl.1 rfl (lv_room (Nat.le_of_ble_eq_true rfl)) dX12_bestIfOff_42 ⟨Nat.zero_le _, Nat.zero_le _⟩ (fun S19 H locs hq G => ?_)
    rw [hq] at G
    clear hq eS17
    refine lv_aload_n hx hb dX12_bestIfOff_45 rfl (lv_at hl 0 rfl) ?_
    refine lv_aload_n hx hb dX12_bestIfOff_46 rfl (lv_at hl 0 rfl) ?_
    refine m_get E G 14 (v := .ref (ad 14)) (by decide) (.tail _ qM_11) rfl dX12_bestIfOff_47 rfl ?_
    obtain ⟨r23, S20, eS20, h⟩ := obind2_some h
    refine m_calli (As := [.ref (ad 14)]) (rest := []) E G hA hR hml (tr_bestIn_14 l D cI cJ cZ ad S17 eS20) (cwV 1 hts (gmV qM_360 qM_361 qM_362 qM_35 qM_300) rfl rfl rfl (by decide +kernel) ⟨Nat.le_of_ble_eq_true rfl, Nat.le_of_ble_eq_true rfl⟩) rfl hl.1 rfl (lv_room (Nat.le_of_ble_eq_true rfl)) dX12_bestIfOff_50 ⟨Nat.zero_le _, Nat.zero_le _⟩ (fun q21 S22 H locs hq G => ?_)
    obtain ⟨hq1, hq2⟩ := hq
    rw [hq2] at G
    refine lv_to hq1 ?_
    clear hq1 hq2 eS20
    exact W.iret (v := r23) hx hb hr (fun t ht hW => ⟨⟨r23, S20, rfl, osome2 h, ⟨by rw [ht]; exact G.1, va_K.moved hW.alike hK, G.2.1⟩⟩, G.2.2.F ht⟩) G.2.2.2.2 dX12_bestIfOff_53
  · have h := oif_pos c10 h
    refine lv_iconst (v := 0) hx hb dX12_bestIfOff_12 (by decide) ?_
    exact W.iret (v := 0) hx hb hr (fun t ht hW => ⟨⟨0, S6, rfl, osome2 h, ⟨by rw [ht]; exact G.1, va_K.moved hW.alike hK, G.2.1⟩⟩, G.2.2.F ht⟩) G.2.2.2.2 dX12_bestIfOff_13
def fr_sets (S : MS) (a0 : Int32) (a1 : Int32) : Option (Int32 × MS) := obind (fr_remember S) fun S2 => oif (inb a0 2455 = true) <| elet (S2.2.1 12 a0.toNatClampNeg) fun v6 => oif (inb a0 2455 = true) <| elet (mf S2 12 (upd (S2.2.1 12) a0.toNatClampNeg a1)) fun S8 => some (v6, S8)
set_option maxHeartbeats 4000000 in
set_option maxRecDepth 100000 in
theorem tr_sets (l : Launch) (D : va_G) (cI cJ cZ : ClassId) (ad : Nat → Nat) (S : MS) (a0 : Int32) (a1 : Int32) {r1 : Int32} {S1 : MS} (h : fr_sets S a0 a1 = some (r1, S1)) : mCi l yX12_sets (Cond.code yX12_sets cX12_sets 4 (some .int) :: wsM) 3 45 D cI cJ cZ ad S [.int a0, .int a1] (fun r S9 => r = r1 ∧ S9 = S1) := by
  intro sz
  refine Met.ofW (cc := cX12_sets) (maxL := 4) (ret := (some .int)) (by decide) rfl ?_
  intro p e s m args below meth c s₁ B hml hv
  obtain ⟨rfl, hsz, hP, hK, hD0, hR⟩ := hv
  have hx := B.exec
  have hb := B.bytes
  have hr := B.returns
  have hts := atoms_spec (ws := (Cond.code yX12_sets cX12_sets 4 (some .int) :: wsM)) B.pre
  have hown : s.vm.findClass RX12 = some m.cls := findClass_of_methodNamed B.named
  have hlocks := B.notSynchronized
  subst hsz
  have hD := hD0.self (sz := s.heap.size)
  generalize hAe : va_A (MW cI cJ cZ ad S) s.heap.size = A at hD ⊢
  have hA : ∀ q : Nat, s.heap.size ≤ q → A q := fun q h => by rw [← hAe]; exact Or.inr h
  have G : mG D cI cJ cZ ad A s.heap s.heap [] S := ⟨hP, hD, va_S.rf⟩
  have E : mE p c cX12_sets s m ([.ref (ad 0), .int a0, .int a1] : List Value).toArray (Cond.code yX12_sets cX12_sets 4 (some .int) :: wsM) D cI cJ cZ := ⟨hx, hb, hts, hown, hK, fun w h => .tail _ (iM_x h)⟩
  have hl := lv_entry ([.ref (ad 0), .int a0, .int a1]) (n := 4) (Nat.le_of_ble_eq_true rfl)
  rw [lg_entry_eq]
  generalize (lg_sl ([.ref (ad 0), .int a0, .int a1]) ++ List.replicate (4 - (lg_sl ([.ref (ad 0), .int a0, .int a1])).length) Slot.unset).toArray = ls at hl ⊢
  have hl : lv_has ls 4 [(0, .ref (ad 0)), (1, .int a0), (2, .int a1)] := hl
  unfold fr_sets at h
  refine lv_aload_n hx hb dX12_sets_0 rfl (lv_at hl 0 rfl) ?_
  obtain ⟨S2, eS2, h⟩ := obind_some h
  refine m_callv (As := []) (rest := []) E G hA hR hml (tr_remember l D cI cJ cZ ad S eS2) (cwV 0 hts (gmV qM_480 qM_481 qM_482 qM_35 qM_268) rfl rfl rfl (by decide +kernel) ⟨Nat.le_of_ble_eq_true rfl, Nat.le_of_ble_eq_true rfl⟩) rfl hl.1 rfl (lv_room (Nat.le_of_ble_eq_true rfl)) dX12_sets_1 ⟨Nat.zero_le _, Nat.zero_le _⟩ (fun S4 H locs hq G => ?_)
  rw [hq] at G
  clear hq eS2
  refine lv_aload_n hx hb dX12_sets_4 rfl (lv_at hl 0 rfl) ?_
  refine m_get E G 12 (v := .ref (ad 12)) (by decide) (.tail _ qM_9) rfl dX12_sets_5 rfl ?_
  refine lv_iload_n hx hb dX12_sets_8 rfl (lv_at hl 1 rfl) ?_
  obtain ⟨g5, h⟩ := oif_some h
  refine m_iald E G 12 4 (n := 2455) (k := a0.toNatClampNeg) rfl (inb_k g5).1 (inb_k g5).2 (by decide) dX12_sets_9 ?_
  refine lv_topi (fun v6 ev6 => ?_)
  have h := elet_at ev6 h
  clear ev6
  refine lv_istore_n (lv' := [(3, .int v6), (0, .ref (ad 0)), (1, .int a0), (2, .int a1)]) hx hb dX12_sets_10 rfl hl (by decide) rfl (fun ls hl => ?_)
  refine lv_aload_n hx hb dX12_sets_11 rfl (lv_at hl 1 rfl) ?_
  refine m_get E G 12 (v := .ref (ad 12)) (by decide) (.tail _ qM_9) rfl dX12_sets_12 rfl ?_
  refine lv_iload_n hx hb dX12_sets_15 rfl (lv_at hl 2 rfl) ?_
  refine lv_iload_n hx hb dX12_sets_16 rfl (lv_at hl 3 rfl) ?_
  obtain ⟨g7, h⟩ := oif_some h
  refine m_iast E G 12 4 (k := a0.toNatClampNeg) (v := a1) rfl (fun _ => rfl) (inb_k g7).1 (inb_k g7).2 (by decide) dX12_sets_17 (fun H locs G => ?_)
  obtain ⟨S8, eS8, h⟩ := elet_some h
  rw [← eS8] at G
  clear eS8
  refine lv_iload_n hx hb dX12_sets_18 rfl (lv_at hl 0 rfl) ?_
  exact W.iret (v := v6) hx hb hr (fun t ht hW => ⟨⟨v6, S8, rfl, osome2 h, ⟨by rw [ht]; exact G.1, va_K.moved hW.alike hK, G.2.1⟩⟩, G.2.2.F ht⟩) G.2.2.2.2 dX12_sets_19
def fr_mute_b37  (S : MS) (s0 : Int32) : Option (Int32 × MS) := oif (s0 = 0 ∨ s0 = 1) <| some (s0, S)
set_option maxHeartbeats 4000000 in
set_option maxRecDepth 100000 in
theorem tr_mute_b37 {p : Program} {l : Launch} {e : Env} {s : State} {m : MethodId} {args : Array Value} {below : List Frame} {meth : Method} {c : Code} {Q : State → Prop} {D : va_G} {A : Nat → Prop} {H0 : Heap} {cI cJ cZ : ClassId} {ad : Nat → Nat} {r1 : Int32} {S1 : MS} (E : mE p c cX12_mute s m args (Cond.code yX12_mute cX12_mute 3 (some .boolean) :: wsM) D cI cJ cZ) (hA : ∀ q : Nat, H0.size ≤ q → A q) (hR : sR s) (hml : c.maxLocals = 3) (kr37 : ∀ (H : Heap) (locs : List Loc) (ls : Array Slot), (r1 = 0 ∨ r1 = 1) → mG D cI cJ cZ ad A H0 H locs S1 → W p l e { frames := 4, cells := 0, slots := 0, locals := 68 } s m args below meth c H locs 0 0 Q (F0 m 37 ls [.int r1])) : ∀ (S : MS) (H : Heap) (locs : List Loc) (ls : Array Slot) (s0 : Int32), fr_mute_b37 S s0 = some (r1, S1) → mG D cI cJ cZ ad A H0 H locs S → lv_has ls 3 [] → W p l e { frames := 4, cells := 0, slots := 0, locals := 68 } s m args below meth c H locs 0 0 Q (F0 m 37 ls [.int s0]) := by
  have hx := E.1
  have hb := E.2.1
  have hts := E.2.2.1
  have hown := E.2.2.2.1
  have hK := E.2.2.2.2.1
  intro S H locs ls s0 h G hl
  unfold fr_mute_b37 at h
  obtain ⟨gz, h⟩ := oif_some h
  have gr : r1 = 0 ∨ r1 = 1 := by rw [← (osome2 h).1]; exact gz
  rw [(osome2 h).2] at G
  refine lv_to (osome2 h).1 ?_
  exact kr37 _ _ _ gr G
def fr_mute_b36  (S : MS)  : Option (Int32 × MS) := fr_mute_b37 S 0
set_option maxHeartbeats 4000000 in
set_option maxRecDepth 100000 in
theorem tr_mute_b36 {p : Program} {l : Launch} {e : Env} {s : State} {m : MethodId} {args : Array Value} {below : List Frame} {meth : Method} {c : Code} {Q : State → Prop} {D : va_G} {A : Nat → Prop} {H0 : Heap} {cI cJ cZ : ClassId} {ad : Nat → Nat} {r1 : Int32} {S1 : MS} (E : mE p c cX12_mute s m args (Cond.code yX12_mute cX12_mute 3 (some .boolean) :: wsM) D cI cJ cZ) (hA : ∀ q : Nat, H0.size ≤ q → A q) (hR : sR s) (hml : c.maxLocals = 3) (kr37 : ∀ (H : Heap) (locs : List Loc) (ls : Array Slot), (r1 = 0 ∨ r1 = 1) → mG D cI cJ cZ ad A H0 H locs S1 → W p l e { frames := 4, cells := 0, slots := 0, locals := 68 } s m args below meth c H locs 0 0 Q (F0 m 37 ls [.int r1])) : ∀ (S : MS) (H : Heap) (locs : List Loc) (ls : Array Slot), fr_mute_b36 S = some (r1, S1) → mG D cI cJ cZ ad A H0 H locs S → lv_has ls 3 [] → W p l e { frames := 4, cells := 0, slots := 0, locals := 68 } s m args below meth c H locs 0 0 Q (F0 m 36 ls []) := by
  have hx := E.1
  have hb := E.2.1
  have hts := E.2.2.1
  have hown := E.2.2.2.1
  have hK := E.2.2.2.2.1
  intro S H locs ls h G hl
  unfold fr_mute_b36 at h
  refine lv_iconst (v := 0) hx hb dX12_mute_36 (by decide) ?_
  have hl := lv_sub hl [] rfl
  exact tr_mute_b37 E hA hR hml kr37 _ _ _ _ _ h G hl
def fr_mute_b25  (S : MS) (s0 : Int32) (s1 : Int32) : Option (Int32 × MS) := obind2 (fr_sets S s1 s0) fun r5 S2 => if r5 = 1 then (fr_mute_b37 S2 1) else (fr_mute_b36 S2)
set_option maxHeartbeats 4000000 in
set_option maxRecDepth 100000 in
theorem tr_mute_b25 {p : Program} {l : Launch} {e : Env} {s : State} {m : MethodId} {args : Array Value} {below : List Frame} {meth : Method} {c : Code} {Q : State → Prop} {D : va_G} {A : Nat → Prop} {H0 : Heap} {cI cJ cZ : ClassId} {ad : Nat → Nat} {r1 : Int32} {S1 : MS} (E : mE p c cX12_mute s m args (Cond.code yX12_mute cX12_mute 3 (some .boolean) :: wsM) D cI cJ cZ) (hA : ∀ q : Nat, H0.size ≤ q → A q) (hR : sR s) (hml : c.maxLocals = 3) (kr37 : ∀ (H : Heap) (locs : List Loc) (ls : Array Slot), (r1 = 0 ∨ r1 = 1) → mG D cI cJ cZ ad A H0 H locs S1 → W p l e { frames := 4, cells := 0, slots := 0, locals := 68 } s m args below meth c H locs 0 0 Q (F0 m 37 ls [.int r1])) : ∀ (S : MS) (H : Heap) (locs : List Loc) (ls : Array Slot) (s0 : Int32) (s1 : Int32), fr_mute_b25 S s0 s1 = some (r1, S1) → mG D cI cJ cZ ad A H0 H locs S → lv_has ls 3 [] → W p l e { frames := 4, cells := 0, slots := 0, locals := 68 } s m args below meth c H locs 0 0 Q (F0 m 25 ls [.int s0, .int s1, .ref (ad 0)]) := by
  have hx := E.1
  have hb := E.2.1
  have hts := E.2.2.1
  have hown := E.2.2.2.1
  have hK := E.2.2.2.2.1
  intro S H locs ls s0 s1 h G hl
  unfold fr_mute_b25 at h
  obtain ⟨r5, S2, eS2, h⟩ := obind2_some h
  refine m_calli (As := [.int s1, .int s0]) (rest := []) E G hA hR hml (tr_sets l D cI cJ cZ ad S s1 s0 eS2) (cwV 2 hts (gmV qM_484 qM_485 qM_486 qM_35 qM_479) rfl rfl rfl (by decide +kernel) ⟨Nat.le_of_ble_eq_true rfl, Nat.le_of_ble_eq_true rfl⟩) rfl hl.1 rfl (lv_room (Nat.le_of_ble_eq_true rfl)) dX12_mute_25 ⟨Nat.zero_le _, Nat.zero_le _⟩ (fun q3 S4 H locs hq G => ?_)
  obtain ⟨hq1, hq2⟩ := hq
  rw [hq2] at G
  refine lv_to hq1 ?_
  clear hq1 hq2 eS2
  refine lv_iconst (v := 1) hx hb dX12_mute_28 (by decide) ?_
  refine lv_icmp_ne (tgt := 36) hx hb dX12_mute_29 (by decide) (fun c6 => ?_) (fun c6 => ?_)
  · have h := oif_neg c6 h
    have hl := lv_sub hl [] rfl
    exact tr_mute_b36 E hA hR hml kr37 _ _ _ _ h G hl
  · have h := oif_pos c6 h
    refine lv_iconst (v := 1) hx hb dX12_mute_32 (by decide) ?_
    refine lv_goto (tgt := 37) hx hb dX12_mute_33 (by decide) ?_
    have hl := lv_sub hl [] rfl
    exact tr_mute_b37 E hA hR hml kr37 _ _ _ _ _ h G hl
def fr_mute (S : MS) (a0 : Int32) (a1 : Int32) : Option (Int32 × MS) := obind2 (fr_isMic S a0) fun r5 S2 => obind2 (fr_mayAsk S2 r5) fun r9 S6 => if r9 = 0 then (fr_mute_b36 S6) else (elet (1 + a0) fun v11 => if a1 = 0 then (fr_mute_b25 S6 0 v11) else (fr_mute_b25 S6 1 v11))
set_option maxHeartbeats 4000000 in
set_option maxRecDepth 100000 in
theorem tr_mute (l : Launch) (D : va_G) (cI cJ cZ : ClassId) (ad : Nat → Nat) (S : MS) (a0 : Int32) (a1 : Int32) {r1 : Int32} {S1 : MS} (h : fr_mute S a0 a1 = some (r1, S1)) : mCi l yX12_mute (Cond.code yX12_mute cX12_mute 3 (some .boolean) :: wsM) 4 68 D cI cJ cZ ad S [.int a0, .int a1] (fun r S9 => r = r1 ∧ S9 = S1) := by
  intro sz
  refine Met.ofW (cc := cX12_mute) (maxL := 3) (ret := (some .boolean)) (by decide) rfl ?_
  intro p e s m args below meth c s₁ B hml hv
  obtain ⟨rfl, hsz, hP, hK, hD0, hR⟩ := hv
  have hx := B.exec
  have hb := B.bytes
  have hr := B.returns
  have hts := atoms_spec (ws := (Cond.code yX12_mute cX12_mute 3 (some .boolean) :: wsM)) B.pre
  have hown : s.vm.findClass RX12 = some m.cls := findClass_of_methodNamed B.named
  have hlocks := B.notSynchronized
  subst hsz
  have hD := hD0.self (sz := s.heap.size)
  generalize hAe : va_A (MW cI cJ cZ ad S) s.heap.size = A at hD ⊢
  have hA : ∀ q : Nat, s.heap.size ≤ q → A q := fun q h => by rw [← hAe]; exact Or.inr h
  have G : mG D cI cJ cZ ad A s.heap s.heap [] S := ⟨hP, hD, va_S.rf⟩
  have E : mE p c cX12_mute s m ([.ref (ad 0), .int a0, .int a1] : List Value).toArray (Cond.code yX12_mute cX12_mute 3 (some .boolean) :: wsM) D cI cJ cZ := ⟨hx, hb, hts, hown, hK, fun w h => .tail _ (iM_x h)⟩
  have hl := lv_entry ([.ref (ad 0), .int a0, .int a1]) (n := 3) (Nat.le_of_ble_eq_true rfl)
  rw [lg_entry_eq]
  generalize (lg_sl ([.ref (ad 0), .int a0, .int a1]) ++ List.replicate (3 - (lg_sl ([.ref (ad 0), .int a0, .int a1])).length) Slot.unset).toArray = ls at hl ⊢
  have hl : lv_has ls 3 [(0, .ref (ad 0)), (1, .int a0), (2, .int a1)] := hl
  unfold fr_mute at h
  refine lv_aload_n hx hb dX12_mute_0 rfl (lv_at hl 0 rfl) ?_
  refine lv_aload_n hx hb dX12_mute_1 rfl (lv_at hl 0 rfl) ?_
  refine lv_iload_n hx hb dX12_mute_2 rfl (lv_at hl 1 rfl) ?_
  obtain ⟨r5, S2, eS2, h⟩ := obind2_some h
  refine m_calli (As := [.int a0]) (rest := [.ref (ad 0)]) E G hA hR hml (tr_isMic l D cI cJ cZ ad S a0 eS2) (cwV 1 hts (gmV qM_316 qM_317 qM_318 qM_35 qM_306) rfl rfl rfl (by decide +kernel) ⟨Nat.le_of_ble_eq_true rfl, Nat.le_of_ble_eq_true rfl⟩) rfl hl.1 rfl (lv_room (Nat.le_of_ble_eq_true rfl)) dX12_mute_3 ⟨Nat.zero_le _, Nat.zero_le _⟩ (fun q3 S4 H locs hq G => ?_)
  obtain ⟨hq1, hq2⟩ := hq
  rw [hq2] at G
  refine lv_to hq1 ?_
  clear hq1 hq2 eS2
  obtain ⟨r9, S6, eS6, h⟩ := obind2_some h
  refine m_calli (As := [.int r5]) (rest := []) E G hA hR hml (tr_mayAsk l D cI cJ cZ ad S2 r5 eS6) (cwV 1 hts (gmV qM_319 qM_320 qM_321 qM_35 qM_304) rfl rfl rfl (by decide +kernel) ⟨Nat.le_of_ble_eq_true rfl, Nat.le_of_ble_eq_true rfl⟩) rfl hl.1 rfl (lv_room (Nat.le_of_ble_eq_true rfl)) dX12_mute_6 ⟨Nat.zero_le _, Nat.zero_le _⟩ (fun q7 S8 H locs hq G => ?_)
  obtain ⟨hq1, hq2⟩ := hq
  rw [hq2] at G
  refine lv_to hq1 ?_
  clear hq1 hq2 eS6
  refine lv_if_eq (tgt := 36) hx hb dX12_mute_9 (by decide) (fun c10 => ?_) (fun c10 => ?_)
  · have h := oif_pos c10 h
    have hl := lv_sub hl [] rfl
    exact tr_mute_b36 E hA hR hml (fun H locs ls gz G => W.zret (v := r1) hx hb hr (nar01 gz) (fun t ht hW => ⟨⟨r1, S1, rfl, ⟨rfl, rfl⟩, ⟨by rw [ht]; exact G.1, va_K.moved hW.alike hK, G.2.1⟩⟩, G.2.2.F ht⟩) G.2.2.2.2 dX12_mute_37) _ _ _ _ h G hl
  · have h := oif_neg c10 h
    refine lv_aload_n hx hb dX12_mute_12 rfl (lv_at hl 0 rfl) ?_
    refine lv_iconst (v := 1) hx hb dX12_mute_13 (by decide) ?_
    refine lv_iload_n hx hb dX12_mute_14 rfl (lv_at hl 1 rfl) ?_
    refine lv_iadd hx hb dX12_mute_15 ?_
    refine lv_topi (fun v11 ev11 => ?_)
    have h := elet_at ev11 h
    clear ev11
    refine lv_iload_n hx hb dX12_mute_16 rfl (lv_at hl 2 rfl) ?_
    refine lv_if_eq (tgt := 24) hx hb dX12_mute_17 (by decide) (fun c12 => ?_) (fun c12 => ?_)
    · have h := oif_pos c12 h
      refine lv_iconst (v := 0) hx hb dX12_mute_24 (by decide) ?_
      have hl := lv_sub hl [] rfl
      exact tr_mute_b25 E hA hR hml (fun H locs ls gz G => W.zret (v := r1) hx hb hr (nar01 gz) (fun t ht hW => ⟨⟨r1, S1, rfl, ⟨rfl, rfl⟩, ⟨by rw [ht]; exact G.1, va_K.moved hW.alike hK, G.2.1⟩⟩, G.2.2.F ht⟩) G.2.2.2.2 dX12_mute_37) _ _ _ _ _ _ h G hl
    · have h := oif_neg c12 h
      refine lv_iconst (v := 1) hx hb dX12_mute_20 (by decide) ?_
      refine lv_goto (tgt := 25) hx hb dX12_mute_21 (by decide) ?_
      have hl := lv_sub hl [] rfl
      exact tr_mute_b25 E hA hR hml (fun H locs ls gz G => W.zret (v := r1) hx hb hr (nar01 gz) (fun t ht hW => ⟨⟨r1, S1, rfl, ⟨rfl, rfl⟩, ⟨by rw [ht]; exact G.1, va_K.moved hW.alike hK, G.2.1⟩⟩, G.2.2.F ht⟩) G.2.2.2.2 dX12_mute_37) _ _ _ _ _ _ h G hl
def fr_setWeight_b41  (S : MS) (s0 : Int32) : Option (Int32 × MS) := some (s0, S)
set_option maxHeartbeats 4000000 in
set_option maxRecDepth 100000 in
theorem tr_setWeight_b41 {p : Program} {l : Launch} {e : Env} {s : State} {m : MethodId} {args : Array Value} {below : List Frame} {meth : Method} {c : Code} {Q : State → Prop} {D : va_G} {A : Nat → Prop} {H0 : Heap} {cI cJ cZ : ClassId} {ad : Nat → Nat} {r1 : Int32} {S1 : MS} (E : mE p c cX12_setWeight s m args (Cond.code yX12_setWeight cX12_setWeight 3 (some .int) :: wsM) D cI cJ cZ) (hA : ∀ q : Nat, H0.size ≤ q → A q) (hR : sR s) (hml : c.maxLocals = 3) (kr13 : ∀ (H : Heap) (locs : List Loc) (ls : Array Slot), mG D cI cJ cZ ad A H0 H locs S1 → W p l e { frames := 4, cells := 0, slots := 0, locals := 68 } s m args below meth c H locs 0 0 Q (F0 m 13 ls [.int r1])) (kr41 : ∀ (H : Heap) (locs : List Loc) (ls : Array Slot), mG D cI cJ cZ ad A H0 H locs S1 → W p l e { frames := 4, cells := 0, slots := 0, locals := 68 } s m args below meth c H locs 0 0 Q (F0 m 41 ls [.int r1])) : ∀ (S : MS) (H : Heap) (locs : List Loc) (ls : Array Slot) (s0 : Int32), fr_setWeight_b41 S s0 = some (r1, S1) → mG D cI cJ cZ ad A H0 H locs S → lv_has ls 3 [] → W p l e { frames := 4, cells := 0, slots := 0, locals := 68 } s m args below meth c H locs 0 0 Q (F0 m 41 ls [.int s0]) := by
  have hx := E.1
  have hb := E.2.1
  have hts := E.2.2.1
  have hown := E.2.2.2.1
  have hK := E.2.2.2.2.1
  intro S H locs ls s0 h G hl
  unfold fr_setWeight_b41 at h
  rw [(osome2 h).2] at G
  refine lv_to (osome2 h).1 ?_
  exact kr41 _ _ _ G
def fr_setWeight (S : MS) (a0 : Int32) (a1 : Int32) : Option (Int32 × MS) := obind2 (fr_isMic S a0) fun r5 S2 => obind2 (fr_mayAsk S2 r5) fun r9 S6 => if r9 = 0 then (some (0, S6)) else (obind (fr_in a1 0 9) fun r11 => if r11 = 0 then (obind2 (fr_throwsAt S6 3) fun r17 S14 => fr_setWeight_b41 S14 r17) else (elet (13 + a0) fun v18 => obind2 (fr_sets S6 v18 a1) fun r22 S19 => fr_setWeight_b41 S19 r22))
set_option maxHeartbeats 4000000 in
set_option maxRecDepth 100000 in
theorem tr_setWeight (l : Launch) (D : va_G) (cI cJ cZ : ClassId) (ad : Nat → Nat) (S : MS) (a0 : Int32) (a1 : Int32) {r1 : Int32} {S1 : MS} (h : fr_setWeight S a0 a1 = some (r1, S1)) : mCi l yX12_setWeight (Cond.code yX12_setWeight cX12_setWeight 3 (some .int) :: wsM) 4 68 D cI cJ cZ ad S [.int a0, .int a1] (fun r S9 => r = r1 ∧ S9 = S1) := by
  intro sz
  refine Met.ofW (cc := cX12_setWeight) (maxL := 3) (ret := (some .int)) (by decide) rfl ?_
  intro p e s m args below meth c s₁ B hml hv
  obtain ⟨rfl, hsz, hP, hK, hD0, hR⟩ := hv
  have hx := B.exec
  have hb := B.bytes
  have hr := B.returns
  have hts := atoms_spec (ws := (Cond.code yX12_setWeight cX12_setWeight 3 (some .int) :: wsM)) B.pre
  have hown : s.vm.findClass RX12 = some m.cls := findClass_of_methodNamed B.named
  have hlocks := B.notSynchronized
  subst hsz
  have hD := hD0.self (sz := s.heap.size)
  generalize hAe : va_A (MW cI cJ cZ ad S) s.heap.size = A at hD ⊢
  have hA : ∀ q : Nat, s.heap.size ≤ q → A q := fun q h => by rw [← hAe]; exact Or.inr h
  have G : mG D cI cJ cZ ad A s.heap s.heap [] S := ⟨hP, hD, va_S.rf⟩
  have E : mE p c cX12_setWeight s m ([.ref (ad 0), .int a0, .int a1] : List Value).toArray (Cond.code yX12_setWeight cX12_setWeight 3 (some .int) :: wsM) D cI cJ cZ := ⟨hx, hb, hts, hown, hK, fun w h => .tail _ (iM_x h)⟩
  have hl := lv_entry ([.ref (ad 0), .int a0, .int a1]) (n := 3) (Nat.le_of_ble_eq_true rfl)
  rw [lg_entry_eq]
  generalize (lg_sl ([.ref (ad 0), .int a0, .int a1]) ++ List.replicate (3 - (lg_sl ([.ref (ad 0), .int a0, .int a1])).length) Slot.unset).toArray = ls at hl ⊢
  have hl : lv_has ls 3 [(0, .ref (ad 0)), (1, .int a0), (2, .int a1)] := hl
  unfold fr_setWeight at h
  refine lv_aload_n hx hb dX12_setWeight_0 rfl (lv_at hl 0 rfl) ?_
  refine lv_aload_n hx hb dX12_setWeight_1 rfl (lv_at hl 0 rfl) ?_
  refine lv_iload_n hx hb dX12_setWeight_2 rfl (lv_at hl 1 rfl) ?_
  obtain ⟨r5, S2, eS2, h⟩ := obind2_some h
  refine m_calli (As := [.int a0]) (rest := [.ref (ad 0)]) E G hA hR hml (tr_isMic l D cI cJ cZ ad S a0 eS2) (cwV 1 hts (gmV qM_316 qM_317 qM_318 qM_35 qM_306) rfl rfl rfl (by decide +kernel) ⟨Nat.le_of_ble_eq_true rfl, Nat.le_of_ble_eq_true rfl⟩) rfl hl.1 rfl (lv_room (Nat.le_of_ble_eq_true rfl)) dX12_setWeight_3 ⟨Nat.zero_le _, Nat.zero_le _⟩ (fun q3 S4 H locs hq G => ?_)
  obtain ⟨hq1, hq2⟩ := hq
  rw [hq2] at G
  refine lv_to hq1 ?_
  clear hq1 hq2 eS2
  obtain ⟨r9, S6, eS6, h⟩ := obind2_some h
  refine m_calli (As := [.int r5]) (rest := []) E G hA hR hml (tr_mayAsk l D cI cJ cZ ad S2 r5 eS6) (cwV 1 hts (gmV qM_319 qM_320 qM_321 qM_35 qM_304) rfl rfl rfl (by decide +kernel) ⟨Nat.le_of_ble_eq_true rfl, Nat.le_of_ble_eq_true rfl⟩) rfl hl.1 rfl (lv_room (Nat.le_of_ble_eq_true rfl)) dX12_setWeight_6 ⟨Nat.zero_le _, Nat.zero_le _⟩ (fun q7 S8 H locs hq G => ?_)
  obtain ⟨hq1, hq2⟩ := hq
  rw [hq2] at G
  refine lv_to hq1 ?_
  clear hq1 hq2 eS6
  refine lv_if_ne (tgt := 14) hx hb dX12_setWeight_9 (by decide) (fun c10 => ?_) (fun c10 => ?_)
  · have h := oif_neg c10 h
    refine lv_iload_n hx hb dX12_setWeight_14 rfl (lv_at hl 2 rfl) ?_
    refine lv_iconst (v := 0) hx hb dX12_setWeight_15 (by decide) ?_
    refine lv_bipush (v := 9) hx hb dX12_setWeight_16 (by decide) ?_
    obtain ⟨r11, er11, h⟩ := obind_some h
    refine m_stat (As := [.int a1, .int 0, .int 9]) (rest := []) ⟨hx, hb, hml, hown, hts⟩ (tr_in l a1 0 9 er11) (cwS 3 hts (gmS qM_52 qM_53 qM_35 qM_27) rfl rfl rfl (by decide +kernel) ⟨Nat.le_of_ble_eq_true rfl, Nat.le_of_ble_eq_true rfl⟩) rfl hl.1 rfl (lv_room (Nat.le_of_ble_eq_true rfl)) dX12_setWeight_18 ⟨Nat.zero_le _, Nat.zero_le _⟩ (fun q12 hq => ?_)
    refine lv_to hq ?_
    clear hq er11
    refine lv_if_eq (tgt := 36) hx hb dX12_setWeight_21 (by decide) (fun c13 => ?_) (fun c13 => ?_)
    · have h := oif_pos c13 h
      refine lv_aload_n hx hb dX12_setWeight_36 rfl (lv_at hl 0 rfl) ?_
      refine lv_iconst (v := 3) hx hb dX12_setWeight_37 (by decide) ?_
      obtain ⟨r17, S14, eS14, h⟩ := obind2_some h
      refine m_calli (As := [.int 3]) (rest := []) E G hA hR hml (tr_throwsAt l D cI cJ cZ ad S6 3 eS14) (cwV 1 hts (gmV qM_195 qM_196 qM_197 qM_35 qM_28) rfl rfl rfl (by decide +kernel) ⟨Nat.le_of_ble_eq_true rfl, Nat.le_of_ble_eq_true rfl⟩) rfl hl.1 rfl (lv_room (Nat.le_of_ble_eq_true rfl)) dX12_setWeight_38 ⟨Nat.zero_le _, Nat.zero_le _⟩ (fun q15 S16 H locs hq G => ?_)
      obtain ⟨hq1, hq2⟩ := hq
      rw [hq2] at G
      refine lv_to hq1 ?_
      clear hq1 hq2 eS14
      have hl := lv_sub hl [] rfl
      exact tr_setWeight_b41 E hA hR hml (fun H locs ls G => W.iret (v := r1) hx hb hr (fun t ht hW => ⟨⟨r1, S1, rfl, ⟨rfl, rfl⟩, ⟨by rw [ht]; exact G.1, va_K.moved hW.alike hK, G.2.1⟩⟩, G.2.2.F ht⟩) G.2.2.2.2 dX12_setWeight_13) (fun H locs ls G => W.iret (v := r1) hx hb hr (fun t ht hW => ⟨⟨r1, S1, rfl, ⟨rfl, rfl⟩, ⟨by rw [ht]; exact G.1, va_K.moved hW.alike hK, G.2.1⟩⟩, G.2.2.F ht⟩) G.2.2.2.2 dX12_setWeight_41) _ _ _ _ _ h G hl
    · have h := oif_neg c13 h
      refine lv_aload_n hx hb dX12_setWeight_24 rfl (lv_at hl 0 rfl) ?_
      refine lv_bipush (v := 13) hx hb dX12_setWeight_25 (by decide) ?_
      refine lv_iload_n hx hb dX12_setWeight_27 rfl (lv_at hl 1 rfl) ?_
      refine lv_iadd hx hb dX12_setWeight_28 ?_
      refine lv_topi (fun v18 ev18 => ?_)
      have h := elet_at ev18 h
      clear ev18
      refine lv_iload_n hx hb dX12_setWeight_29 rfl (lv_at hl 2 rfl) ?_
      obtain ⟨r22, S19, eS19, h⟩ := obind2_some h
      refine m_calli (As := [.int v18, .int a1]) (rest := []) E G hA hR hml (tr_sets l D cI cJ cZ ad S6 v18 a1 eS19) (cwV 2 hts (gmV qM_484 qM_485 qM_486 qM_35 qM_479) rfl rfl rfl (by decide +kernel) ⟨Nat.le_of_ble_eq_true rfl, Nat.le_of_ble_eq_true rfl⟩) rfl hl.1 rfl (lv_room (Nat.le_of_ble_eq_true rfl)) dX12_setWeight_30 ⟨Nat.zero_le _, Nat.zero_le _⟩ (fun q20 S21 H locs hq G => ?_)
      obtain ⟨hq1, hq2⟩ := hq
      rw [hq2] at G
      refine lv_to hq1 ?_
      clear hq1 hq2 eS19
      refine lv_goto (tgt := 41) hx hb dX12_setWeight_33 (by decide) ?_
      have hl := lv_sub hl [] rfl
      exact tr_setWeight_b41 E hA hR hml (fun H locs ls G => W.iret (v := r1) hx hb hr (fun t ht hW => ⟨⟨r1, S1, rfl, ⟨rfl, rfl⟩, ⟨by rw [ht]; exact G.1, va_K.moved hW.alike hK, G.2.1⟩⟩, G.2.2.F ht⟩) G.2.2.2.2 dX12_setWeight_13) (fun H locs ls G => W.iret (v := r1) hx hb hr (fun t ht hW => ⟨⟨r1, S1, rfl, ⟨rfl, rfl⟩, ⟨by rw [ht]; exact G.1, va_K.moved hW.alike hK, G.2.1⟩⟩, G.2.2.F ht⟩) G.2.2.2.2 dX12_setWeight_41) _ _ _ _ _ h G hl
  · have h := oif_pos c10 h
    refine lv_iconst (v := 0) hx hb dX12_setWeight_12 (by decide) ?_
    exact W.iret (v := 0) hx hb hr (fun t ht hW => ⟨⟨0, S6, rfl, osome2 h, ⟨by rw [ht]; exact G.1, va_K.moved hW.alike hK, G.2.1⟩⟩, G.2.2.F ht⟩) G.2.2.2.2 dX12_setWeight_13
def fr_setOn_b50  (S : MS) (s0 : Int32) : Option (Int32 × MS) := oif (s0 = 0 ∨ s0 = 1) <| some (s0, S)
set_option maxHeartbeats 4000000 in
set_option maxRecDepth 100000 in
theorem tr_setOn_b50 {p : Program} {l : Launch} {e : Env} {s : State} {m : MethodId} {args : Array Value} {below : List Frame} {meth : Method} {c : Code} {Q : State → Prop} {D : va_G} {A : Nat → Prop} {H0 : Heap} {cI cJ cZ : ClassId} {ad : Nat → Nat} {r1 : Int32} {S1 : MS} (E : mE p c cX12_setOn s m args (Cond.code yX12_setOn cX12_setOn 4 (some .boolean) :: wsM) D cI cJ cZ) (hA : ∀ q : Nat, H0.size ≤ q → A q) (hR : sR s) (hml : c.maxLocals = 4) (kr13 : ∀ (H : Heap) (locs : List Loc) (ls : Array Slot), (r1 = 0 ∨ r1 = 1) → mG D cI cJ cZ ad A H0 H locs S1 → W p l e { frames := 7, cells := 0, slots := 0, locals := 169 } s m args below meth c H locs 0 0 Q (F0 m 13 ls [.int r1])) (kr50 : ∀ (H : Heap) (locs : List Loc) (ls : Array Slot), (r1 = 0 ∨ r1 = 1) → mG D cI cJ cZ ad A H0 H locs S1 → W p l e { frames := 7, cells := 0, slots := 0, locals := 169 } s m args below meth c H locs 0 0 Q (F0 m 50 ls [.int r1])) : ∀ (S : MS) (H : Heap) (locs : List Loc) (ls : Array Slot) (s0 : Int32), fr_setOn_b50 S s0 = some (r1, S1) → mG D cI cJ cZ ad A H0 H locs S → lv_has ls 4 [] → W p l e { frames := 7, cells := 0, slots := 0, locals := 169 } s m args below meth c H locs 0 0 Q (F0 m 50 ls [.int s0]) := by
  have hx := E.1
  have hb := E.2.1
  have hts := E.2.2.1
  have hown := E.2.2.2.1
  have hK := E.2.2.2.2.1
  intro S H locs ls s0 h G hl
  unfold fr_setOn_b50 at h
  obtain ⟨gz, h⟩ := oif_some h
  have gr : r1 = 0 ∨ r1 = 1 := by rw [← (osome2 h).1]; exact gz
  rw [(osome2 h).2] at G
  refine lv_to (osome2 h).1 ?_
  exact kr50 _ _ _ gr G
def fr_setOn_b28  (S : MS) (s0 : Int32) (s1 : Int32) : Option (Int32 × MS) := obind2 (fr_sets S s1 s0) fun r5 S2 => obind (fr_records_12 S2) fun S6 => if r5 = 1 then (fr_setOn_b50 S6 1) else (fr_setOn_b50 S6 0)
set_option maxHeartbeats 4000000 in
set_option maxRecDepth 100000 in
theorem tr_setOn_b28 {p : Program} {l : Launch} {e : Env} {s : State} {m : MethodId} {args : Array Value} {below : List Frame} {meth : Method} {c : Code} {Q : State → Prop} {D : va_G} {A : Nat → Prop} {H0 : Heap} {cI cJ cZ : ClassId} {ad : Nat → Nat} {r1 : Int32} {S1 : MS} (E : mE p c cX12_setOn s m args (Cond.code yX12_setOn cX12_setOn 4 (some .boolean) :: wsM) D cI cJ cZ) (hA : ∀ q : Nat, H0.size ≤ q → A q) (hR : sR s) (hml : c.maxLocals = 4) (kr13 : ∀ (H : Heap) (locs : List Loc) (ls : Array Slot), (r1 = 0 ∨ r1 = 1) → mG D cI cJ cZ ad A H0 H locs S1 → W p l e { frames := 7, cells := 0, slots := 0, locals := 169 } s m args below meth c H locs 0 0 Q (F0 m 13 ls [.int r1])) (kr50 : ∀ (H : Heap) (locs : List Loc) (ls : Array Slot), (r1 = 0 ∨ r1 = 1) → mG D cI cJ cZ ad A H0 H locs S1 → W p l e { frames := 7, cells := 0, slots := 0, locals := 169 } s m args below meth c H locs 0 0 Q (F0 m 50 ls [.int r1])) : ∀ (S : MS) (H : Heap) (locs : List Loc) (ls : Array Slot) (s0 : Int32) (s1 : Int32), fr_setOn_b28 S s0 s1 = some (r1, S1) → mG D cI cJ cZ ad A H0 H locs S → lv_has ls 4 [(0, .ref (ad 0))] → W p l e { frames := 7, cells := 0, slots := 0, locals := 169 } s m args below meth c H locs 0 0 Q (F0 m 28 ls [.int s0, .int s1, .ref (ad 0)]) := by
  have hx := E.1
  have hb := E.2.1
  have hts := E.2.2.1
  have hown := E.2.2.2.1
  have hK := E.2.2.2.2.1
  intro S H locs ls s0 s1 h G hl
  unfold fr_setOn_b28 at h
  obtain ⟨r5, S2, eS2, h⟩ := obind2_some h
  refine m_calli (As := [.int s1, .int s0]) (rest := []) E G hA hR hml (tr_sets l D cI cJ cZ ad S s1 s0 eS2) (cwV 2 hts (gmV qM_484 qM_485 qM_486 qM_35 qM_479) rfl rfl rfl (by decide +kernel) ⟨Nat.le_of_ble_eq_true rfl, Nat.le_of_ble_eq_true rfl⟩) rfl hl.1 rfl (lv_room (Nat.le_of_ble_eq_true rfl)) dX12_setOn_28 ⟨Nat.zero_le _, Nat.zero_le _⟩ (fun q3 S4 H locs hq G => ?_)
  obtain ⟨hq1, hq2⟩ := hq
  rw [hq2] at G
  refine lv_to hq1 ?_
  clear hq1 hq2 eS2
  refine lv_istore_n (lv' := [(3, .int r5), (0, .ref (ad 0))]) hx hb dX12_setOn_31 rfl hl (by decide) rfl (fun ls hl => ?_)
  refine lv_aload_n hx hb dX12_setOn_32 rfl (lv_at hl 1 rfl) ?_
  refine lv_aload_n hx hb dX12_setOn_33 rfl (lv_at hl 1 rfl) ?_
  refine m_get E G 12 (v := .ref (ad 12)) (by decide) (.tail _ qM_9) rfl dX12_setOn_34 rfl ?_
  obtain ⟨S6, eS6, h⟩ := obind_some h
  refine m_callv (As := [.ref (ad 12)]) (rest := []) E G hA hR hml (tr_records_12 l D cI cJ cZ ad S2 eS6) (cwV 1 hts (gmV qM_220 qM_221 qM_222 qM_35 qM_223) rfl rfl rfl (by decide +kernel) ⟨Nat.le_of_ble_eq_true rfl, Nat.le_of_ble_eq_true rfl⟩) rfl hl.1 rfl (lv_room (Nat.le_of_ble_eq_true rfl)) dX12_setOn_37 ⟨Nat.zero_le _, Nat.zero_le _⟩ (fun S8 H locs hq G => ?_)
  rw [hq] at G
  clear hq eS6
  refine lv_iload_n hx hb dX12_setOn_40 rfl (lv_at hl 0 rfl) ?_
  refine lv_iconst (v := 1) hx hb dX12_setOn_41 (by decide) ?_
  refine lv_icmp_ne (tgt := 49) hx hb dX12_setOn_42 (by decide) (fun c9 => ?_) (fun c9 => ?_)
  · have h := oif_neg c9 h
    refine lv_iconst (v := 0) hx hb dX12_setOn_49 (by decide) ?_
    have hl := lv_sub hl [] rfl
    exact tr_setOn_b50 E hA hR hml kr13 kr50 _ _ _ _ _ h G hl
  · have h := oif_pos c9 h
    refine lv_iconst (v := 1) hx hb dX12_setOn_45 (by decide) ?_
    refine lv_goto (tgt := 50) hx hb dX12_setOn_46 (by decide) ?_
    have hl := lv_sub hl [] rfl
    exact tr_setOn_b50 E hA hR hml kr13 kr50 _ _ _ _ _ h G hl
def fr_setOn (S : MS) (a0 : Int32) (a1 : Int32) : Option (Int32 × MS) := obind2 (fr_isSource S a0) fun r5 S2 => obind2 (fr_mayAsk S2 r5) fun r9 S6 => if r9 = 0 then (some (0, S6)) else (elet (25 + a0) fun v11 => if a1 = 0 then (fr_setOn_b28 S6 0 v11) else (fr_setOn_b28 S6 1 v11))
set_option maxHeartbeats 4000000 in
set_option maxRecDepth 100000 in
theorem tr_setOn (l : Launch) (D : va_G) (cI cJ cZ : ClassId) (ad : Nat → Nat) (S : MS) (a0 : Int32) (a1 : Int32) {r1 : Int32} {S1 : MS} (h : fr_setOn S a0 a1 = some (r1, S1)) : mCi l yX12_setOn (Cond.code yX12_setOn cX12_setOn 4 (some .boolean) :: wsM) 7 169 D cI cJ cZ ad S [.int a0, .int a1] (fun r S9 => r = r1 ∧ S9 = S1) := by
  intro sz
  refine Met.ofW (cc := cX12_setOn) (maxL := 4) (ret := (some .boolean)) (by decide) rfl ?_
  intro p e s m args below meth c s₁ B hml hv
  obtain ⟨rfl, hsz, hP, hK, hD0, hR⟩ := hv
  have hx := B.exec
  have hb := B.bytes
  have hr := B.returns
  have hts := atoms_spec (ws := (Cond.code yX12_setOn cX12_setOn 4 (some .boolean) :: wsM)) B.pre
  have hown : s.vm.findClass RX12 = some m.cls := findClass_of_methodNamed B.named
  have hlocks := B.notSynchronized
  subst hsz
  have hD := hD0.self (sz := s.heap.size)
  generalize hAe : va_A (MW cI cJ cZ ad S) s.heap.size = A at hD ⊢
  have hA : ∀ q : Nat, s.heap.size ≤ q → A q := fun q h => by rw [← hAe]; exact Or.inr h
  have G : mG D cI cJ cZ ad A s.heap s.heap [] S := ⟨hP, hD, va_S.rf⟩
  have E : mE p c cX12_setOn s m ([.ref (ad 0), .int a0, .int a1] : List Value).toArray (Cond.code yX12_setOn cX12_setOn 4 (some .boolean) :: wsM) D cI cJ cZ := ⟨hx, hb, hts, hown, hK, fun w h => .tail _ (iM_x h)⟩
  have hl := lv_entry ([.ref (ad 0), .int a0, .int a1]) (n := 4) (Nat.le_of_ble_eq_true rfl)
  rw [lg_entry_eq]
  generalize (lg_sl ([.ref (ad 0), .int a0, .int a1]) ++ List.replicate (4 - (lg_sl ([.ref (ad 0), .int a0, .int a1])).length) Slot.unset).toArray = ls at hl ⊢
  have hl : lv_has ls 4 [(0, .ref (ad 0)), (1, .int a0), (2, .int a1)] := hl
  unfold fr_setOn at h
  refine lv_aload_n hx hb dX12_setOn_0 rfl (lv_at hl 0 rfl) ?_
  refine lv_aload_n hx hb dX12_setOn_1 rfl (lv_at hl 0 rfl) ?_
  refine lv_iload_n hx hb dX12_setOn_2 rfl (lv_at hl 1 rfl) ?_
  obtain ⟨r5, S2, eS2, h⟩ := obind2_some h
  refine m_calli (As := [.int a0]) (rest := [.ref (ad 0)]) E G hA hR hml (tr_isSource l D cI cJ cZ ad S a0 eS2) (cwV 1 hts (gmV qM_331 qM_332 qM_333 qM_35 qM_308) rfl rfl rfl (by decide +kernel) ⟨Nat.le_of_ble_eq_true rfl, Nat.le_of_ble_eq_true rfl⟩) rfl hl.1 rfl (lv_room (Nat.le_of_ble_eq_true rfl)) dX12_setOn_3 ⟨Nat.zero_le _, Nat.zero_le _⟩ (fun q3 S4 H locs hq G => ?_)
  obtain ⟨hq1, hq2⟩ := hq
  rw [hq2] at G
  refine lv_to hq1 ?_
  clear hq1 hq2 eS2
  obtain ⟨r9, S6, eS6, h⟩ := obind2_some h
  refine m_calli (As := [.int r5]) (rest := []) E G hA hR hml (tr_mayAsk l D cI cJ cZ ad S2 r5 eS6) (cwV 1 hts (gmV qM_319 qM_320 qM_321 qM_35 qM_304) rfl rfl rfl (by decide +kernel) ⟨Nat.le_of_ble_eq_true rfl, Nat.le_of_ble_eq_true rfl⟩) rfl hl.1 rfl (lv_room (Nat.le_of_ble_eq_true rfl)) dX12_setOn_6 ⟨Nat.zero_le _, Nat.zero_le _⟩ (fun q7 S8 H locs hq G => ?_)
  obtain ⟨hq1, hq2⟩ := hq
  rw [hq2] at G
  refine lv_to hq1 ?_
  clear hq1 hq2 eS6
  refine lv_if_ne (tgt := 14) hx hb dX12_setOn_9 (by decide) (fun c10 => ?_) (fun c10 => ?_)
  · have h := oif_neg c10 h
    refine lv_aload_n hx hb dX12_setOn_14 rfl (lv_at hl 0 rfl) ?_
    refine lv_bipush (v := 25) hx hb dX12_setOn_15 (by decide) ?_
    refine lv_iload_n hx hb dX12_setOn_17 rfl (lv_at hl 1 rfl) ?_
    refine lv_iadd hx hb dX12_setOn_18 ?_
    refine lv_topi (fun v11 ev11 => ?_)
    have h := elet_at ev11 h
    clear ev11
    refine lv_iload_n hx hb dX12_setOn_19 rfl (lv_at hl 2 rfl) ?_
    refine lv_if_eq (tgt := 27) hx hb dX12_setOn_20 (by decide) (fun c12 => ?_) (fun c12 => ?_)
    · have h := oif_pos c12 h
      refine lv_iconst (v := 0) hx hb dX12_setOn_27 (by decide) ?_
      have hl := lv_sub hl [0] rfl
      exact tr_setOn_b28 E hA hR hml (fun H locs ls gz G => W.zret (v := r1) hx hb hr (nar01 gz) (fun t ht hW => ⟨⟨r1, S1, rfl, ⟨rfl, rfl⟩, ⟨by rw [ht]; exact G.1, va_K.moved hW.alike hK, G.2.1⟩⟩, G.2.2.F ht⟩) G.2.2.2.2 dX12_setOn_13) (fun H locs ls gz G => W.zret (v := r1) hx hb hr (nar01 gz) (fun t ht hW => ⟨⟨r1, S1, rfl, ⟨rfl, rfl⟩, ⟨by rw [ht]; exact G.1, va_K.moved hW.alike hK, G.2.1⟩⟩, G.2.2.F ht⟩) G.2.2.2.2 dX12_setOn_50) _ _ _ _ _ _ h G hl
    · have h := oif_neg c12 h
      refine lv_iconst (v := 1) hx hb dX12_setOn_23 (by decide) ?_
      refine lv_goto (tgt := 28) hx hb dX12_setOn_24 (by decide) ?_
      have hl := lv_sub hl [0] rfl
      exact tr_setOn_b28 E hA hR hml (fun H locs ls gz G => W.zret (v := r1) hx hb hr (nar01 gz) (fun t ht hW => ⟨⟨r1, S1, rfl, ⟨rfl, rfl⟩, ⟨by rw [ht]; exact G.1, va_K.moved hW.alike hK, G.2.1⟩⟩, G.2.2.F ht⟩) G.2.2.2.2 dX12_setOn_13) (fun H locs ls gz G => W.zret (v := r1) hx hb hr (nar01 gz) (fun t ht hW => ⟨⟨r1, S1, rfl, ⟨rfl, rfl⟩, ⟨by rw [ht]; exact G.1, va_K.moved hW.alike hK, G.2.1⟩⟩, G.2.2.F ht⟩) G.2.2.2.2 dX12_setOn_50) _ _ _ _ _ _ h G hl
  · have h := oif_pos c10 h
    refine lv_iconst (v := 0) hx hb dX12_setOn_12 (by decide) ?_
    exact W.zret (v := 0) hx hb hr rfl (fun t ht hW => ⟨⟨0, S6, rfl, osome2 h, ⟨by rw [ht]; exact G.1, va_K.moved hW.alike hK, G.2.1⟩⟩, G.2.2.F ht⟩) G.2.2.2.2 dX12_setOn_13
def fr_setsTwo (S : MS) (a0 : Int32) (a1 : Int32) (a2 : Int32) : Option (Int32 × MS) := obind2 (fr_sets S a0 a1) fun r5 S2 => elet (a0 + 6) fun v6 => oif (inb v6 2455 = true) <| elet (mf S2 12 (upd (S2.2.1 12) v6.toNatClampNeg a2)) fun S8 => obind (fr_records_12 S8) fun S9 => obind2 (fr_bestIn_12 S9) fun r15 S12 => some (r15, S12)
set_option maxHeartbeats 4000000 in
set_option maxRecDepth 100000 in
theorem tr_setsTwo (l : Launch) (D : va_G) (cI cJ cZ : ClassId) (ad : Nat → Nat) (S : MS) (a0 : Int32) (a1 : Int32) (a2 : Int32) {r1 : Int32} {S1 : MS} (h : fr_setsTwo S a0 a1 a2 = some (r1, S1)) : mCi l yX12_setsTwo (Cond.code yX12_setsTwo cX12_setsTwo 5 (some .int) :: wsM) 8 169 D cI cJ cZ ad S [.int a0, .int a1, .int a2] (fun r S9 => r = r1 ∧ S9 = S1) := by
  intro sz
  refine Met.ofW (cc := cX12_setsTwo) (maxL := 5) (ret := (some .int)) (by decide) rfl ?_
  intro p e s m args below meth c s₁ B hml hv
  obtain ⟨rfl, hsz, hP, hK, hD0, hR⟩ := hv
  have hx := B.exec
  have hb := B.bytes
  have hr := B.returns
  have hts := atoms_spec (ws := (Cond.code yX12_setsTwo cX12_setsTwo 5 (some .int) :: wsM)) B.pre
  have hown : s.vm.findClass RX12 = some m.cls := findClass_of_methodNamed B.named
  have hlocks := B.notSynchronized
  subst hsz
  have hD := hD0.self (sz := s.heap.size)
  generalize hAe : va_A (MW cI cJ cZ ad S) s.heap.size = A at hD ⊢
  have hA : ∀ q : Nat, s.heap.size ≤ q → A q := fun q h => by rw [← hAe]; exact Or.inr h
  have G : mG D cI cJ cZ ad A s.heap s.heap [] S := ⟨hP, hD, va_S.rf⟩
  have E : mE p c cX12_setsTwo s m ([.ref (ad 0), .int a0, .int a1, .int a2] : List Value).toArray (Cond.code yX12_setsTwo cX12_setsTwo 5 (some .int) :: wsM) D cI cJ cZ := ⟨hx, hb, hts, hown, hK, fun w h => .tail _ (iM_x h)⟩
  have hl := lv_entry ([.ref (ad 0), .int a0, .int a1, .int a2]) (n := 5) (Nat.le_of_ble_eq_true rfl)
  rw [lg_entry_eq]
  generalize (lg_sl ([.ref (ad 0), .int a0, .int a1, .int a2]) ++ List.replicate (5 - (lg_sl ([.ref (ad 0), .int a0, .int a1, .int a2])).length) Slot.unset).toArray = ls at hl ⊢
  have hl : lv_has ls 5 [(0, .ref (ad 0)), (1, .int a0), (2, .int a1), (3, .int a2)] := hl
  unfold fr_setsTwo at h
  refine lv_aload_n hx hb dX12_setsTwo_0 rfl (lv_at hl 0 rfl) ?_
  refine lv_iload_n hx hb dX12_setsTwo_1 rfl (lv_at hl 1 rfl) ?_
  refine lv_iload_n hx hb dX12_setsTwo_2 rfl (lv_at hl 2 rfl) ?_
  obtain ⟨r5, S2, eS2, h⟩ := obind2_some h
  refine m_calli (As := [.int a0, .int a1]) (rest := []) E G hA hR hml (tr_sets l D cI cJ cZ ad S a0 a1 eS2) (cwV 2 hts (gmV qM_484 qM_485 qM_486 qM_35 qM_479) rfl rfl rfl (by decide +kernel) ⟨Nat.le_of_ble_eq_true rfl, Nat.le_of_ble_eq_true rfl⟩) rfl hl.1 rfl (lv_room (Nat.le_of_ble_eq_true rfl)) dX12_setsTwo_3 ⟨Nat.zero_le _, Nat.zero_le _⟩ (fun q3 S4 H locs hq G => ?_)
  obtain ⟨hq1, hq2⟩ := hq
  rw [hq2] at G
  refine lv_to hq1 ?_
  clear hq1 hq2 eS2
  refine lv_istore (lv' := [(4, .int r5), (0, .ref (ad 0)), (1, .int a0), (2, .int a1), (3, .int a2)]) hx hb dX12_setsTwo_6 hl (by decide) rfl (fun ls hl => ?_)
  refine lv_aload_n hx hb dX12_setsTwo_8 rfl (lv_at hl 1 rfl) ?_
  refine m_get E G 12 (v := .ref (ad 12)) (by decide) (.tail _ qM_9) rfl dX12_setsTwo_9 rfl ?_
  refine lv_iload_n hx hb dX12_setsTwo_12 rfl (lv_at hl 2 rfl) ?_
  refine lv_bipush (v := 6) hx hb dX12_setsTwo_13 (by decide) ?_
  refine lv_iadd hx hb dX12_setsTwo_15 ?_
  refine lv_topi (fun v6 ev6 => ?_)
  have h := elet_at ev6 h
  clear ev6
  refine lv_iload_n hx hb dX12_setsTwo_16 rfl (lv_at hl 4 rfl) ?_
  obtain ⟨g7, h⟩ := oif_some h
  refine m_iast E G 12 4 (k := v6.toNatClampNeg) (v := a2) rfl (fun _ => rfl) (inb_k g7).1 (inb_k g7).2 (by decide) dX12_setsTwo_17 (fun H locs G => ?_)
  obtain ⟨S8, eS8, h⟩ := elet_some h
  rw [← eS8] at G
  clear eS8
  refine lv_aload_n hx hb dX12_setsTwo_18 rfl (lv_at hl 1 rfl) ?_
  refine lv_aload_n hx hb dX12_setsTwo_19 rfl (lv_at hl 1 rfl) ?_
  refine m_get E G 12 (v := .ref (ad 12)) (by decide) (.tail _ qM_9) rfl dX12_setsTwo_20 rfl ?_
  obtain ⟨S9, eS9, h⟩ := obind_some h
  refine m_callv (As := [.ref (ad 12)]) (rest := []) E G hA hR hml (tr_records_12 l D cI cJ cZ ad S8 eS9) (cwV 1 hts (gmV qM_220 qM_221 qM_222 qM_35 qM_223) rfl rfl rfl (by decide +kernel) ⟨Nat.le_of_ble_eq_true rfl, Nat.le_of_ble_eq_true rfl⟩) rfl hl.1 rfl (lv_room (Nat.le_of_ble_eq_true rfl)) dX12_setsTwo_23 ⟨Nat.zero_le _, Nat.zero_le _⟩ (fun S11 H locs hq G => ?_)
  rw [hq] at G
  clear hq eS9
  refine lv_aload_n hx hb dX12_setsTwo_26 rfl (lv_at hl 1 rfl) ?_
  refine lv_aload_n hx hb dX12_setsTwo_27 rfl (lv_at hl 1 rfl) ?_
  refine m_get E G 12 (v := .ref (ad 12)) (by decide) (.tail _ qM_9) rfl dX12_setsTwo_28 rfl ?_
  obtain ⟨r15, S12, eS12, h⟩ := obind2_some h
  refine m_calli (As := [.ref (ad 12)]) (rest := []) E G hA hR hml (tr_bestIn_12 l D cI cJ cZ ad S9 eS12) (cwV 1 hts (gmV qM_360 qM_361 qM_362 qM_35 qM_300) rfl rfl rfl (by decide +kernel) ⟨Nat.le_of_ble_eq_true rfl, Nat.le_of_ble_eq_true rfl⟩) rfl hl.1 rfl (lv_room (Nat.le_of_ble_eq_true rfl)) dX12_setsTwo_31 ⟨Nat.zero_le _, Nat.zero_le _⟩ (fun q13 S14 H locs hq G => ?_)
  obtain ⟨hq1, hq2⟩ := hq
  rw [hq2] at G
  refine lv_to hq1 ?_
  clear hq1 hq2 eS12
  exact W.iret (v := r15) hx hb hr (fun t ht hW => ⟨⟨r15, S12, rfl, osome2 h, ⟨by rw [ht]; exact G.1, va_K.moved hW.alike hK, G.2.1⟩⟩, G.2.2.F ht⟩) G.2.2.2.2 dX12_setsTwo_34
def fr_moveSource_b58  (S : MS) (s0 : Int32) : Option (Int32 × MS) := some (s0, S)
set_option maxHeartbeats 4000000 in
set_option maxRecDepth 100000 in
theorem tr_moveSource_b58 {p : Program} {l : Launch} {e : Env} {s : State} {m : MethodId} {args : Array Value} {below : List Frame} {meth : Method} {c : Code} {Q : State → Prop} {D : va_G} {A : Nat → Prop} {H0 : Heap} {cI cJ cZ : ClassId} {ad : Nat → Nat} {r1 : Int32} {S1 : MS} (E : mE p c cX12_moveSource s m args (Cond.code yX12_moveSource cX12_moveSource 4 (some .int) :: wsM) D cI cJ cZ) (hA : ∀ q : Nat, H0.size ≤ q → A q) (hR : sR s) (hml : c.maxLocals = 4) (kr13 : ∀ (H : Heap) (locs : List Loc) (ls : Array Slot), mG D cI cJ cZ ad A H0 H locs S1 → W p l e { frames := 9, cells := 0, slots := 0, locals := 193 } s m args below meth c H locs 0 0 Q (F0 m 13 ls [.int r1])) (kr58 : ∀ (H : Heap) (locs : List Loc) (ls : Array Slot), mG D cI cJ cZ ad A H0 H locs S1 → W p l e { frames := 9, cells := 0, slots := 0, locals := 193 } s m args below meth c H locs 0 0 Q (F0 m 58 ls [.int r1])) : ∀ (S : MS) (H : Heap) (locs : List Loc) (ls : Array Slot) (s0 : Int32), fr_moveSource_b58 S s0 = some (r1, S1) → mG D cI cJ cZ ad A H0 H locs S → lv_has ls 4 [] → W p l e { frames := 9, cells := 0, slots := 0, locals := 193 } s m args below meth c H locs 0 0 Q (F0 m 58 ls [.int s0]) := by
  have hx := E.1
  have hb := E.2.1
  have hts := E.2.2.1
  have hown := E.2.2.2.1
  have hK := E.2.2.2.2.1
  intro S H locs ls s0 h G hl
  unfold fr_moveSource_b58 at h
  rw [(osome2 h).2] at G
  refine lv_to (osome2 h).1 ?_
  exact kr58 _ _ _ G
def fr_moveSource_b53  (S : MS)  : Option (Int32 × MS) := obind2 (fr_throwsAt S 3) fun r5 S2 => fr_moveSource_b58 S2 r5
set_option maxHeartbeats 4000000 in
set_option maxRecDepth 100000 in
theorem tr_moveSource_b53 {p : Program} {l : Launch} {e : Env} {s : State} {m : MethodId} {args : Array Value} {below : List Frame} {meth : Method} {c : Code} {Q : State → Prop} {D : va_G} {A : Nat → Prop} {H0 : Heap} {cI cJ cZ : ClassId} {ad : Nat → Nat} {r1 : Int32} {S1 : MS} (E : mE p c cX12_moveSource s m args (Cond.code yX12_moveSource cX12_moveSource 4 (some .int) :: wsM) D cI cJ cZ) (hA : ∀ q : Nat, H0.size ≤ q → A q) (hR : sR s) (hml : c.maxLocals = 4) (kr13 : ∀ (H : Heap) (locs : List Loc) (ls : Array Slot), mG D cI cJ cZ ad A H0 H locs S1 → W p l e { frames := 9, cells := 0, slots := 0, locals := 193 } s m args below meth c H locs 0 0 Q (F0 m 13 ls [.int r1])) (kr58 : ∀ (H : Heap) (locs : List Loc) (ls : Array Slot), mG D cI cJ cZ ad A H0 H locs S1 → W p l e { frames := 9, cells := 0, slots := 0, locals := 193 } s m args below meth c H locs 0 0 Q (F0 m 58 ls [.int r1])) : ∀ (S : MS) (H : Heap) (locs : List Loc) (ls : Array Slot), fr_moveSource_b53 S = some (r1, S1) → mG D cI cJ cZ ad A H0 H locs S → lv_has ls 4 [(0, .ref (ad 0))] → W p l e { frames := 9, cells := 0, slots := 0, locals := 193 } s m args below meth c H locs 0 0 Q (F0 m 53 ls []) := by
  have hx := E.1
  have hb := E.2.1
  have hts := E.2.2.1
  have hown := E.2.2.2.1
  have hK := E.2.2.2.2.1
  intro S H locs ls h G hl
  unfold fr_moveSource_b53 at h
  refine lv_aload_n hx hb dX12_moveSource_53 rfl (lv_at hl 0 rfl) ?_
  refine lv_iconst (v := 3) hx hb dX12_moveSource_54 (by decide) ?_
  obtain ⟨r5, S2, eS2, h⟩ := obind2_some h
  refine m_calli (As := [.int 3]) (rest := []) E G hA hR hml (tr_throwsAt l D cI cJ cZ ad S 3 eS2) (cwV 1 hts (gmV qM_195 qM_196 qM_197 qM_35 qM_28) rfl rfl rfl (by decide +kernel) ⟨Nat.le_of_ble_eq_true rfl, Nat.le_of_ble_eq_true rfl⟩) rfl hl.1 rfl (lv_room (Nat.le_of_ble_eq_true rfl)) dX12_moveSource_55 ⟨Nat.zero_le _, Nat.zero_le _⟩ (fun q3 S4 H locs hq G => ?_)
  obtain ⟨hq1, hq2⟩ := hq
  rw [hq2] at G
  refine lv_to hq1 ?_
  clear hq1 hq2 eS2
  have hl := lv_sub hl [] rfl
  exact tr_moveSource_b58 E hA hR hml kr13 kr58 _ _ _ _ _ h G hl
def fr_moveSource (S : MS) (a0 : Int32) (a1 : Int32) (a2 : Int32) : Option (Int32 × MS) := obind2 (fr_isSource S a0) fun r5 S2 => obind2 (fr_mayAsk S2 r5) fun r9 S6 => if r9 = 0 then (some (0, S6)) else (obind (fr_in a1 (-2000) 2000) fun r11 => if r11 = 0 then (fr_moveSource_b53 S6) else (obind (fr_in a2 (-2000) 2000) fun r14 => if r14 = 0 then (fr_moveSource_b53 S6) else (elet (31 + a0) fun v17 => obind2 (fr_setsTwo S6 v17 a1 a2) fun r21 S18 => fr_moveSource_b58 S18 r21)))
set_option maxHeartbeats 4000000 in
set_option maxRecDepth 100000 in
theorem tr_moveSource (l : Launch) (D : va_G) (cI cJ cZ : ClassId) (ad : Nat → Nat) (S : MS) (a0 : Int32) (a1 : Int32) (a2 : Int32) {r1 : Int32} {S1 : MS} (h : fr_moveSource S a0 a1 a2 = some (r1, S1)) : mCi l yX12_moveSource (Cond.code yX12_moveSource cX12_moveSource 4 (some .int) :: wsM) 9 193 D cI cJ cZ ad S [.int a0, .int a1, .int a2] (fun r S9 => r = r1 ∧ S9 = S1) := by
  intro sz
  refine Met.ofW (cc := cX12_moveSource) (maxL := 4) (ret := (some .int)) (by decide) rfl ?_
  intro p e s m args below meth c s₁ B hml hv
  obtain ⟨rfl, hsz, hP, hK, hD0, hR⟩ := hv
  have hx := B.exec
  have hb := B.bytes
  have hr := B.returns
  have hts := atoms_spec (ws := (Cond.code yX12_moveSource cX12_moveSource 4 (some .int) :: wsM)) B.pre
  have hown : s.vm.findClass RX12 = some m.cls := findClass_of_methodNamed B.named
  have hlocks := B.notSynchronized
  subst hsz
  have hD := hD0.self (sz := s.heap.size)
  generalize hAe : va_A (MW cI cJ cZ ad S) s.heap.size = A at hD ⊢
  have hA : ∀ q : Nat, s.heap.size ≤ q → A q := fun q h => by rw [← hAe]; exact Or.inr h
  have G : mG D cI cJ cZ ad A s.heap s.heap [] S := ⟨hP, hD, va_S.rf⟩
  have E : mE p c cX12_moveSource s m ([.ref (ad 0), .int a0, .int a1, .int a2] : List Value).toArray (Cond.code yX12_moveSource cX12_moveSource 4 (some .int) :: wsM) D cI cJ cZ := ⟨hx, hb, hts, hown, hK, fun w h => .tail _ (iM_x h)⟩
  have hl := lv_entry ([.ref (ad 0), .int a0, .int a1, .int a2]) (n := 4) (Nat.le_of_ble_eq_true rfl)
  rw [lg_entry_eq]
  generalize (lg_sl ([.ref (ad 0), .int a0, .int a1, .int a2]) ++ List.replicate (4 - (lg_sl ([.ref (ad 0), .int a0, .int a1, .int a2])).length) Slot.unset).toArray = ls at hl ⊢
  have hl : lv_has ls 4 [(0, .ref (ad 0)), (1, .int a0), (2, .int a1), (3, .int a2)] := hl
  unfold fr_moveSource at h
  refine lv_aload_n hx hb dX12_moveSource_0 rfl (lv_at hl 0 rfl) ?_
  refine lv_aload_n hx hb dX12_moveSource_1 rfl (lv_at hl 0 rfl) ?_
  refine lv_iload_n hx hb dX12_moveSource_2 rfl (lv_at hl 1 rfl) ?_
  obtain ⟨r5, S2, eS2, h⟩ := obind2_some h
  refine m_calli (As := [.int a0]) (rest := [.ref (ad 0)]) E G hA hR hml (tr_isSource l D cI cJ cZ ad S a0 eS2) (cwV 1 hts (gmV qM_331 qM_332 qM_333 qM_35 qM_308) rfl rfl rfl (by decide +kernel) ⟨Nat.le_of_ble_eq_true rfl, Nat.le_of_ble_eq_true rfl⟩) rfl hl.1 rfl (lv_room (Nat.le_of_ble_eq_true rfl)) dX12_moveSource_3 ⟨Nat.zero_le _, Nat.zero_le _⟩ (fun q3 S4 H locs hq G => ?_)
  obtain ⟨hq1, hq2⟩ := hq
  rw [hq2] at G
  refine lv_to hq1 ?_
  clear hq1 hq2 eS2
  obtain ⟨r9, S6, eS6, h⟩ := obind2_some h
  refine m_calli (As := [.int r5]) (rest := []) E G hA hR hml (tr_mayAsk l D cI cJ cZ ad S2 r5 eS6) (cwV 1 hts (gmV qM_319 qM_320 qM_321 qM_35 qM_304) rfl rfl rfl (by decide +kernel) ⟨Nat.le_of_ble_eq_true rfl, Nat.le_of_ble_eq_true rfl⟩) rfl hl.1 rfl (lv_room (Nat.le_of_ble_eq_true rfl)) dX12_moveSource_6 ⟨Nat.zero_le _, Nat.zero_le _⟩ (fun q7 S8 H locs hq G => ?_)
  obtain ⟨hq1, hq2⟩ := hq
  rw [hq2] at G
  refine lv_to hq1 ?_
  clear hq1 hq2 eS6
  refine lv_if_ne (tgt := 14) hx hb dX12_moveSource_9 (by decide) (fun c10 => ?_) (fun c10 => ?_)
  · have h := oif_neg c10 h
    refine lv_iload_n hx hb dX12_moveSource_14 rfl (lv_at hl 2 rfl) ?_
    refine lv_sipush (v := (-2000)) hx hb dX12_moveSource_15 (by decide) ?_
    refine lv_sipush (v := 2000) hx hb dX12_moveSource_18 (by decide) ?_
    obtain ⟨r11, er11, h⟩ := obind_some h
    refine m_stat (As := [.int a1, .int (-2000), .int 2000]) (rest := []) ⟨hx, hb, hml, hown, hts⟩ (tr_in l a1 (-2000) 2000 er11) (cwS 3 hts (gmS qM_52 qM_53 qM_35 qM_27) rfl rfl rfl (by decide +kernel) ⟨Nat.le_of_ble_eq_true rfl, Nat.le_of_ble_eq_true rfl⟩) rfl hl.1 rfl (lv_room (Nat.le_of_ble_eq_true rfl)) dX12_moveSource_21 ⟨Nat.zero_le _, Nat.zero_le _⟩ (fun q12 hq => ?_)
    refine lv_to hq ?_
    clear hq er11
    refine lv_if_eq (tgt := 53) hx hb dX12_moveSource_24 (by decide) (fun c13 => ?_) (fun c13 => ?_)
    · have h := oif_pos c13 h
      have hl := lv_sub hl [0] rfl
      exact tr_moveSource_b53 E hA hR hml (fun H locs ls G => W.iret (v := r1) hx hb hr (fun t ht hW => ⟨⟨r1, S1, rfl, ⟨rfl, rfl⟩, ⟨by rw [ht]; exact G.1, va_K.moved hW.alike hK, G.2.1⟩⟩, G.2.2.F ht⟩) G.2.2.2.2 dX12_moveSource_13) (fun H locs ls G => W.iret (v := r1) hx hb hr (fun t ht hW => ⟨⟨r1, S1, rfl, ⟨rfl, rfl⟩, ⟨by rw [ht]; exact G.1, va_K.moved hW.alike hK, G.2.1⟩⟩, G.2.2.F ht⟩) G.2.2.2.2 dX12_moveSource_58) _ _ _ _ h G hl
    · have h := oif_neg c13 h
      refine lv_iload_n hx hb dX12_moveSource_27 rfl (lv_at hl 3 rfl) ?_
      refine lv_sipush (v := (-2000)) hx hb dX12_moveSource_28 (by decide) ?_
      refine lv_sipush (v := 2000) hx hb dX12_moveSource_31 (by decide) ?_
      obtain ⟨r14, er14, h⟩ := obind_some h
      refine m_stat (As := [.int a2, .int (-2000), .int 2000]) (rest := []) ⟨hx, hb, hml, hown, hts⟩ (tr_in l a2 (-2000) 2000 er14) (cwS 3 hts (gmS qM_52 qM_53 qM_35 qM_27) rfl rfl rfl (by decide +kernel) ⟨Nat.le_of_ble_eq_true rfl, Nat.le_of_ble_eq_true rfl⟩) rfl hl.1 rfl (lv_room (Nat.le_of_ble_eq_true rfl)) dX12_moveSource_34 ⟨Nat.zero_le _, Nat.zero_le _⟩ (fun q15 hq => ?_)
      refine lv_to hq ?_
      clear hq er14
      refine lv_if_eq (tgt := 53) hx hb dX12_moveSource_37 (by decide) (fun c16 => ?_) (fun c16 => ?_)
      · have h := oif_pos c16 h
        have hl := lv_sub hl [0] rfl
        exact tr_moveSource_b53 E hA hR hml (fun H locs ls G => W.iret (v := r1) hx hb hr (fun t ht hW => ⟨⟨r1, S1, rfl, ⟨rfl, rfl⟩, ⟨by rw [ht]; exact G.1, va_K.moved hW.alike hK, G.2.1⟩⟩, G.2.2.F ht⟩) G.2.2.2.2 dX12_moveSource_13) (fun H locs ls G => W.iret (v := r1) hx hb hr (fun t ht hW => ⟨⟨r1, S1, rfl, ⟨rfl, rfl⟩, ⟨by rw [ht]; exact G.1, va_K.moved hW.alike hK, G.2.1⟩⟩, G.2.2.F ht⟩) G.2.2.2.2 dX12_moveSource_58) _ _ _ _ h G hl
      · have h := oif_neg c16 h
        refine lv_aload_n hx hb dX12_moveSource_40 rfl (lv_at hl 0 rfl) ?_
        refine lv_bipush (v := 31) hx hb dX12_moveSource_41 (by decide) ?_
        refine lv_iload_n hx hb dX12_moveSource_43 rfl (lv_at hl 1 rfl) ?_
        refine lv_iadd hx hb dX12_moveSource_44 ?_
        refine lv_topi (fun v17 ev17 => ?_)
        have h := elet_at ev17 h
        clear ev17
        refine lv_iload_n hx hb dX12_moveSource_45 rfl (lv_at hl 2 rfl) ?_
        refine lv_iload_n hx hb dX12_moveSource_46 rfl (lv_at hl 3 rfl) ?_
        obtain ⟨r21, S18, eS18, h⟩ := obind2_some h
        refine m_calli (As := [.int v17, .int a1, .int a2]) (rest := []) E G hA hR hml (tr_setsTwo l D cI cJ cZ ad S6 v17 a1 a2 eS18) (cwV 3 hts (gmV qM_491 qM_492 qM_493 qM_35 qM_489) rfl rfl rfl (by decide +kernel) ⟨Nat.le_of_ble_eq_true rfl, Nat.le_of_ble_eq_true rfl⟩) rfl hl.1 rfl (lv_room (Nat.le_of_ble_eq_true rfl)) dX12_moveSource_47 ⟨Nat.zero_le _, Nat.zero_le _⟩ (fun q19 S20 H locs hq G => ?_)
        obtain ⟨hq1, hq2⟩ := hq
        rw [hq2] at G
        refine lv_to hq1 ?_
        clear hq1 hq2 eS18
        refine lv_goto (tgt := 58) hx hb dX12_moveSource_50 (by decide) ?_
        have hl := lv_sub hl [] rfl
        exact tr_moveSource_b58 E hA hR hml (fun H locs ls G => W.iret (v := r1) hx hb hr (fun t ht hW => ⟨⟨r1, S1, rfl, ⟨rfl, rfl⟩, ⟨by rw [ht]; exact G.1, va_K.moved hW.alike hK, G.2.1⟩⟩, G.2.2.F ht⟩) G.2.2.2.2 dX12_moveSource_13) (fun H locs ls G => W.iret (v := r1) hx hb hr (fun t ht hW => ⟨⟨r1, S1, rfl, ⟨rfl, rfl⟩, ⟨by rw [ht]; exact G.1, va_K.moved hW.alike hK, G.2.1⟩⟩, G.2.2.F ht⟩) G.2.2.2.2 dX12_moveSource_58) _ _ _ _ _ h G hl
  · have h := oif_pos c10 h
    refine lv_iconst (v := 0) hx hb dX12_moveSource_12 (by decide) ?_
    exact W.iret (v := 0) hx hb hr (fun t ht hW => ⟨⟨0, S6, rfl, osome2 h, ⟨by rw [ht]; exact G.1, va_K.moved hW.alike hK, G.2.1⟩⟩, G.2.2.F ht⟩) G.2.2.2.2 dX12_moveSource_13
def fr_setVelocity_b40  (S : MS) (s0 : Int32) : Option (Int32 × MS) := some (s0, S)
set_option maxHeartbeats 4000000 in
set_option maxRecDepth 100000 in
theorem tr_setVelocity_b40 {p : Program} {l : Launch} {e : Env} {s : State} {m : MethodId} {args : Array Value} {below : List Frame} {meth : Method} {c : Code} {Q : State → Prop} {D : va_G} {A : Nat → Prop} {H0 : Heap} {cI cJ cZ : ClassId} {ad : Nat → Nat} {r1 : Int32} {S1 : MS} (E : mE p c cX12_setVelocity s m args (Cond.code yX12_setVelocity cX12_setVelocity 4 (some .int) :: wsM) D cI cJ cZ) (hA : ∀ q : Nat, H0.size ≤ q → A q) (hR : sR s) (hml : c.maxLocals = 4) (kr13 : ∀ (H : Heap) (locs : List Loc) (ls : Array Slot), mG D cI cJ cZ ad A H0 H locs S1 → W p l e { frames := 9, cells := 0, slots := 0, locals := 193 } s m args below meth c H locs 0 0 Q (F0 m 13 ls [.int r1])) (kr40 : ∀ (H : Heap) (locs : List Loc) (ls : Array Slot), mG D cI cJ cZ ad A H0 H locs S1 → W p l e { frames := 9, cells := 0, slots := 0, locals := 193 } s m args below meth c H locs 0 0 Q (F0 m 40 ls [.int r1])) : ∀ (S : MS) (H : Heap) (locs : List Loc) (ls : Array Slot) (s0 : Int32), fr_setVelocity_b40 S s0 = some (r1, S1) → mG D cI cJ cZ ad A H0 H locs S → lv_has ls 4 [] → W p l e { frames := 9, cells := 0, slots := 0, locals := 193 } s m args below meth c H locs 0 0 Q (F0 m 40 ls [.int s0]) := by
  have hx := E.1
  have hb := E.2.1
  have hts := E.2.2.1
  have hown := E.2.2.2.1
  have hK := E.2.2.2.2.1
  intro S H locs ls s0 h G hl
  unfold fr_setVelocity_b40 at h
  rw [(osome2 h).2] at G
  refine lv_to (osome2 h).1 ?_
  exact kr40 _ _ _ G
def fr_setVelocity (S : MS) (a0 : Int32) (a1 : Int32) (a2 : Int32) : Option (Int32 × MS) := obind2 (fr_isSource S a0) fun r5 S2 => obind2 (fr_mayAsk S2 r5) fun r9 S6 => if r9 = 0 then (some (0, S6)) else (obind (fr_isVelocity a1 a2) fun r11 => if r11 = 0 then (obind2 (fr_throwsAt S6 3) fun r17 S14 => fr_setVelocity_b40 S14 r17) else (elet (43 + a0) fun v18 => obind2 (fr_setsTwo S6 v18 a1 a2) fun r22 S19 => fr_setVelocity_b40 S19 r22))
set_option maxHeartbeats 4000000 in
set_option maxRecDepth 100000 in
theorem tr_setVelocity (l : Launch) (D : va_G) (cI cJ cZ : ClassId) (ad : Nat → Nat) (S : MS) (a0 : Int32) (a1 : Int32) (a2 : Int32) {r1 : Int32} {S1 : MS} (h : fr_setVelocity S a0 a1 a2 = some (r1, S1)) : mCi l yX12_setVelocity (Cond.code yX12_setVelocity cX12_setVelocity 4 (some .int) :: wsM) 9 193 D cI cJ cZ ad S [.int a0, .int a1, .int a2] (fun r S9 => r = r1 ∧ S9 = S1) := by
  intro sz
  refine Met.ofW (cc := cX12_setVelocity) (maxL := 4) (ret := (some .int)) (by decide) rfl ?_
  intro p e s m args below meth c s₁ B hml hv
  obtain ⟨rfl, hsz, hP, hK, hD0, hR⟩ := hv
  have hx := B.exec
  have hb := B.bytes
  have hr := B.returns
  have hts := atoms_spec (ws := (Cond.code yX12_setVelocity cX12_setVelocity 4 (some .int) :: wsM)) B.pre
  have hown : s.vm.findClass RX12 = some m.cls := findClass_of_methodNamed B.named
  have hlocks := B.notSynchronized
  subst hsz
  have hD := hD0.self (sz := s.heap.size)
  generalize hAe : va_A (MW cI cJ cZ ad S) s.heap.size = A at hD ⊢
  have hA : ∀ q : Nat, s.heap.size ≤ q → A q := fun q h => by rw [← hAe]; exact Or.inr h
  have G : mG D cI cJ cZ ad A s.heap s.heap [] S := ⟨hP, hD, va_S.rf⟩
  have E : mE p c cX12_setVelocity s m ([.ref (ad 0), .int a0, .int a1, .int a2] : List Value).toArray (Cond.code yX12_setVelocity cX12_setVelocity 4 (some .int) :: wsM) D cI cJ cZ := ⟨hx, hb, hts, hown, hK, fun w h => .tail _ (iM_x h)⟩
  have hl := lv_entry ([.ref (ad 0), .int a0, .int a1, .int a2]) (n := 4) (Nat.le_of_ble_eq_true rfl)
  rw [lg_entry_eq]
  generalize (lg_sl ([.ref (ad 0), .int a0, .int a1, .int a2]) ++ List.replicate (4 - (lg_sl ([.ref (ad 0), .int a0, .int a1, .int a2])).length) Slot.unset).toArray = ls at hl ⊢
  have hl : lv_has ls 4 [(0, .ref (ad 0)), (1, .int a0), (2, .int a1), (3, .int a2)] := hl
  unfold fr_setVelocity at h
  refine lv_aload_n hx hb dX12_setVelocity_0 rfl (lv_at hl 0 rfl) ?_
  refine lv_aload_n hx hb dX12_setVelocity_1 rfl (lv_at hl 0 rfl) ?_
  refine lv_iload_n hx hb dX12_setVelocity_2 rfl (lv_at hl 1 rfl) ?_
  obtain ⟨r5, S2, eS2, h⟩ := obind2_some h
  refine m_calli (As := [.int a0]) (rest := [.ref (ad 0)]) E G hA hR hml (tr_isSource l D cI cJ cZ ad S a0 eS2) (cwV 1 hts (gmV qM_331 qM_332 qM_333 qM_35 qM_308) rfl rfl rfl (by decide +kernel) ⟨Nat.le_of_ble_eq_true rfl, Nat.le_of_ble_eq_true rfl⟩) rfl hl.1 rfl (lv_room (Nat.le_of_ble_eq_true rfl)) dX12_setVelocity_3 ⟨Nat.zero_le _, Nat.zero_le _⟩ (fun q3 S4 H locs hq G => ?_)
  obtain ⟨hq1, hq2⟩ := hq
  rw [hq2] at G
  refine lv_to hq1 ?_
  clear hq1 hq2 eS2
  obtain ⟨r9, S6, eS6, h⟩ := obind2_some h
  refine m_calli (As := [.int r5]) (rest := []) E G hA hR hml (tr_mayAsk l D cI cJ cZ ad S2 r5 eS6) (cwV 1 hts (gmV qM_319 qM_320 qM_321 qM_35 qM_304) rfl rfl rfl (by decide +kernel) ⟨Nat.le_of_ble_eq_true rfl, Nat.le_of_ble_eq_true rfl⟩) rfl hl.1 rfl (lv_room (Nat.le_of_ble_eq_true rfl)) dX12_setVelocity_6 ⟨Nat.zero_le _, Nat.zero_le _⟩ (fun q7 S8 H locs hq G => ?_)
  obtain ⟨hq1, hq2⟩ := hq
  rw [hq2] at G
  refine lv_to hq1 ?_
  clear hq1 hq2 eS6
  refine lv_if_ne (tgt := 14) hx hb dX12_setVelocity_9 (by decide) (fun c10 => ?_) (fun c10 => ?_)
  · have h := oif_neg c10 h
    refine lv_iload_n hx hb dX12_setVelocity_14 rfl (lv_at hl 2 rfl) ?_
    refine lv_iload_n hx hb dX12_setVelocity_15 rfl (lv_at hl 3 rfl) ?_
    obtain ⟨r11, er11, h⟩ := obind_some h
    refine m_stat (As := [.int a1, .int a2]) (rest := []) ⟨hx, hb, hml, hown, hts⟩ (tr_isVelocity l a1 a2 er11) (cwS 2 hts (gmS qM_450 qM_451 qM_35 qM_448) rfl rfl rfl (by decide +kernel) ⟨Nat.le_of_ble_eq_true rfl, Nat.le_of_ble_eq_true rfl⟩) rfl hl.1 rfl (lv_room (Nat.le_of_ble_eq_true rfl)) dX12_setVelocity_16 ⟨Nat.zero_le _, Nat.zero_le _⟩ (fun q12 hq => ?_)
    refine lv_to hq ?_
    clear hq er11
    refine lv_if_eq (tgt := 35) hx hb dX12_setVelocity_19 (by decide) (fun c13 => ?_) (fun c13 => ?_)
    · have h := oif_pos c13 h
      refine lv_aload_n hx hb dX12_setVelocity_35 rfl (lv_at hl 0 rfl) ?_
      refine lv_iconst (v := 3) hx hb dX12_setVelocity_36 (by decide) ?_
      obtain ⟨r17, S14, eS14, h⟩ := obind2_some h
      refine m_calli (As := [.int 3]) (rest := []) E G hA hR hml (tr_throwsAt l D cI cJ cZ ad S6 3 eS14) (cwV 1 hts (gmV qM_195 qM_196 qM_197 qM_35 qM_28) rfl rfl rfl (by decide +kernel) ⟨Nat.le_of_ble_eq_true rfl, Nat.le_of_ble_eq_true rfl⟩) rfl hl.1 rfl (lv_room (Nat.le_of_ble_eq_true rfl)) dX12_setVelocity_37 ⟨Nat.zero_le _, Nat.zero_le _⟩ (fun q15 S16 H locs hq G => ?_)
      obtain ⟨hq1, hq2⟩ := hq
      rw [hq2] at G
      refine lv_to hq1 ?_
      clear hq1 hq2 eS14
      have hl := lv_sub hl [] rfl
      exact tr_setVelocity_b40 E hA hR hml (fun H locs ls G => W.iret (v := r1) hx hb hr (fun t ht hW => ⟨⟨r1, S1, rfl, ⟨rfl, rfl⟩, ⟨by rw [ht]; exact G.1, va_K.moved hW.alike hK, G.2.1⟩⟩, G.2.2.F ht⟩) G.2.2.2.2 dX12_setVelocity_13) (fun H locs ls G => W.iret (v := r1) hx hb hr (fun t ht hW => ⟨⟨r1, S1, rfl, ⟨rfl, rfl⟩, ⟨by rw [ht]; exact G.1, va_K.moved hW.alike hK, G.2.1⟩⟩, G.2.2.F ht⟩) G.2.2.2.2 dX12_setVelocity_40) _ _ _ _ _ h G hl
    · have h := oif_neg c13 h
      refine lv_aload_n hx hb dX12_setVelocity_22 rfl (lv_at hl 0 rfl) ?_
      refine lv_bipush (v := 43) hx hb dX12_setVelocity_23 (by decide) ?_
      refine lv_iload_n hx hb dX12_setVelocity_25 rfl (lv_at hl 1 rfl) ?_
      refine lv_iadd hx hb dX12_setVelocity_26 ?_
      refine lv_topi (fun v18 ev18 => ?_)
      have h := elet_at ev18 h
      clear ev18
      refine lv_iload_n hx hb dX12_setVelocity_27 rfl (lv_at hl 2 rfl) ?_
      refine lv_iload_n hx hb dX12_setVelocity_28 rfl (lv_at hl 3 rfl) ?_
      obtain ⟨r22, S19, eS19, h⟩ := obind2_some h
      refine m_calli (As := [.int v18, .int a1, .int a2]) (rest := []) E G hA hR hml (tr_setsTwo l D cI cJ cZ ad S6 v18 a1 a2 eS19) (cwV 3 hts (gmV qM_491 qM_492 qM_493 qM_35 qM_489) rfl rfl rfl (by decide +kernel) ⟨Nat.le_of_ble_eq_true rfl, Nat.le_of_ble_eq_true rfl⟩) rfl hl.1 rfl (lv_room (Nat.le_of_ble_eq_true rfl)) dX12_setVelocity_29 ⟨Nat.zero_le _, Nat.zero_le _⟩ (fun q20 S21 H locs hq G => ?_)
      obtain ⟨hq1, hq2⟩ := hq
      rw [hq2] at G
      refine lv_to hq1 ?_
      clear hq1 hq2 eS19
      refine lv_goto (tgt := 40) hx hb dX12_setVelocity_32 (by decide) ?_
      have hl := lv_sub hl [] rfl
      exact tr_setVelocity_b40 E hA hR hml (fun H locs ls G => W.iret (v := r1) hx hb hr (fun t ht hW => ⟨⟨r1, S1, rfl, ⟨rfl, rfl⟩, ⟨by rw [ht]; exact G.1, va_K.moved hW.alike hK, G.2.1⟩⟩, G.2.2.F ht⟩) G.2.2.2.2 dX12_setVelocity_13) (fun H locs ls G => W.iret (v := r1) hx hb hr (fun t ht hW => ⟨⟨r1, S1, rfl, ⟨rfl, rfl⟩, ⟨by rw [ht]; exact G.1, va_K.moved hW.alike hK, G.2.1⟩⟩, G.2.2.F ht⟩) G.2.2.2.2 dX12_setVelocity_40) _ _ _ _ _ h G hl
  · have h := oif_pos c10 h
    refine lv_iconst (v := 0) hx hb dX12_setVelocity_12 (by decide) ?_
    exact W.iret (v := 0) hx hb hr (fun t ht hW => ⟨⟨0, S6, rfl, osome2 h, ⟨by rw [ht]; exact G.1, va_K.moved hW.alike hK, G.2.1⟩⟩, G.2.2.F ht⟩) G.2.2.2.2 dX12_setVelocity_13
def fr_weightOf_b40 (k4 : MS → Int32 → Int32 → Option (Int32 × MS)) (S : MS) (s0 : Int32) (s1 : Int32) (l2 : Int32) : Option (Int32 × MS) := elet (s1 + s0) fun v2 => elet (l2 + Int32.ofInt (1)) fun v3 => k4 S v2 v3
set_option maxHeartbeats 4000000 in
set_option maxRecDepth 100000 in
theorem tr_weightOf_b40 {p : Program} {l : Launch} {e : Env} {s : State} {m : MethodId} {args : Array Value} {below : List Frame} {meth : Method} {c : Code} {Q : State → Prop} {D : va_G} {A : Nat → Prop} {H0 : Heap} {cI cJ cZ : ClassId} {ad : Nat → Nat} {r1 : Int32} {S1 : MS} (E : mE p c cX12_weightOf s m args (Cond.code yX12_weightOf cX12_weightOf 3 (some .int) :: wsM) D cI cJ cZ) (hA : ∀ q : Nat, H0.size ≤ q → A q) (hR : sR s) (hml : c.maxLocals = 3) (kr49 : ∀ (H : Heap) (locs : List Loc) (ls : Array Slot), mG D cI cJ cZ ad A H0 H locs S1 → W p l e { frames := 2, cells := 0, slots := 0, locals := 22 } s m args below meth c H locs 0 0 Q (F0 m 49 ls [.int r1])) {k4 : MS → Int32 → Int32 → Option (Int32 × MS)} (hk4 : ∀ (S : MS) (H : Heap) (locs : List Loc) (ls : Array Slot) (l1 : Int32) (l2 : Int32), k4 S l1 l2 = some (r1, S1) → mG D cI cJ cZ ad A H0 H locs S → lv_has ls 3 [(0, .ref (ad 0)), (1, .int l1), (2, .int l2)] → W p l e { frames := 2, cells := 0, slots := 0, locals := 22 } s m args below meth c H locs 0 0 Q (F0 m 4 ls [])) : ∀ (S : MS) (H : Heap) (locs : List Loc) (ls : Array Slot) (s0 : Int32) (s1 : Int32) (l2 : Int32), fr_weightOf_b40 k4 S s0 s1 l2 = some (r1, S1) → mG D cI cJ cZ ad A H0 H locs S → lv_has ls 3 [(0, .ref (ad 0)), (2, .int l2)] → W p l e { frames := 2, cells := 0, slots := 0, locals := 22 } s m args below meth c H locs 0 0 Q (F0 m 40 ls [.int s0, .int s1]) := by
  have hx := E.1
  have hb := E.2.1
  have hts := E.2.2.1
  have hown := E.2.2.2.1
  have hK := E.2.2.2.2.1
  intro S H locs ls s0 s1 l2 h G hl
  unfold fr_weightOf_b40 at h
  refine lv_iadd hx hb dX12_weightOf_40 ?_
  refine lv_topi (fun v2 ev2 => ?_)
  have h := elet_at ev2 h
  clear ev2
  refine lv_istore_n (lv' := [(1, .int v2), (0, .ref (ad 0)), (2, .int l2)]) hx hb dX12_weightOf_41 rfl hl (by decide) rfl (fun ls hl => ?_)
  obtain ⟨v3, ev3, h⟩ := elet_some h
  refine lv_iinc (v := v3) (lv' := [(2, .int v3), (1, .int v2), (0, .ref (ad 0))]) hx hb dX12_weightOf_42 hl (k := 2) rfl ev3.symm (by decide) rfl (fun ls hl => ?_)
  refine lv_goto (tgt := 4) hx hb dX12_weightOf_45 (by decide) ?_
  have hl := lv_sub hl [2, 1, 0] rfl
  exact hk4 _ _ _ _ _ _ h G hl
def fr_weightOf_b4  : Nat → MS → Int32 → Int32 → Option (Int32 × MS)
  | 0, _, _, _ => none
  | n + 1, S, l1, l2 => elet (S.2.1 10 4) fun v2 => if v2 ≤ l2 then (some (l1, S)) else (obind2 (fr_hears_12 S l2) fun r7 S4 => if r7 = 0 then (fr_weightOf_b40 (fr_weightOf_b4 n) S4 0 l1 l2) else (elet (13 + l2) fun v9 => oif (inb v9 2455 = true) <| elet (S4.2.1 12 v9.toNatClampNeg) fun v11 => fr_weightOf_b40 (fr_weightOf_b4 n) S4 v11 l1 l2))
set_option maxHeartbeats 4000000 in
set_option maxRecDepth 100000 in
theorem tr_weightOf_b4 {p : Program} {l : Launch} {e : Env} {s : State} {m : MethodId} {args : Array Value} {below : List Frame} {meth : Method} {c : Code} {Q : State → Prop} {D : va_G} {A : Nat → Prop} {H0 : Heap} {cI cJ cZ : ClassId} {ad : Nat → Nat} {r1 : Int32} {S1 : MS} (E : mE p c cX12_weightOf s m args (Cond.code yX12_weightOf cX12_weightOf 3 (some .int) :: wsM) D cI cJ cZ) (hA : ∀ q : Nat, H0.size ≤ q → A q) (hR : sR s) (hml : c.maxLocals = 3) (kr49 : ∀ (H : Heap) (locs : List Loc) (ls : Array Slot), mG D cI cJ cZ ad A H0 H locs S1 → W p l e { frames := 2, cells := 0, slots := 0, locals := 22 } s m args below meth c H locs 0 0 Q (F0 m 49 ls [.int r1])) : ∀ n : Nat, ∀ (S : MS) (H : Heap) (locs : List Loc) (ls : Array Slot) (l1 : Int32) (l2 : Int32), fr_weightOf_b4 n S l1 l2 = some (r1, S1) → mG D cI cJ cZ ad A H0 H locs S → lv_has ls 3 [(0, .ref (ad 0)), (1, .int l1), (2, .int l2)] → W p l e { frames := 2, cells := 0, slots := 0, locals := 22 } s m args below meth c H locs 0 0 Q (F0 m 4 ls []) := by
  have hx := E.1
  have hb := E.2.1
  have hts := E.2.2.1
  have hown := E.2.2.2.1
  have hK := E.2.2.2.2.1
  intro n
  induction n with
  | zero =>
    intro S H locs ls l1 l2 h
    have h : (none : Option (Int32 × MS)) = some (r1, S1) := h
    cases h
  | succ n ih =>
    intro S H locs ls l1 l2 h G hl
    unfold fr_weightOf_b4 at h
    refine lv_iload_n hx hb dX12_weightOf_4 rfl (lv_at hl 2 rfl) ?_
    refine lv_aload_n hx hb dX12_weightOf_5 rfl (lv_at hl 0 rfl) ?_
    refine m_get E G 10 (v := .ref (ad 10)) (by decide) (.tail _ qM_7) rfl dX12_weightOf_6 rfl ?_
    refine lv_iconst (v := 4) hx hb dX12_weightOf_9 (by decide) ?_
    refine m_iald E G 10 2 (n := 131) (k := 4) rfl rfl (by decide) (by decide) dX12_weightOf_10 ?_
    refine lv_topi (fun v2 ev2 => ?_)
    have h := elet_at ev2 h
    clear ev2
    refine lv_icmp_ge (tgt := 48) hx hb dX12_weightOf_11 (by decide) (fun c3 => ?_) (fun c3 => ?_)
    · have h := oif_pos c3 h
      refine lv_iload_n hx hb dX12_weightOf_48 rfl (lv_at hl 1 rfl) ?_
      rw [(osome2 h).2] at G
      refine lv_to (osome2 h).1 ?_
      exact kr49 _ _ _ G
    · have h := oif_neg c3 h
      refine lv_iload_n hx hb dX12_weightOf_14 rfl (lv_at hl 1 rfl) ?_
      refine lv_aload_n hx hb dX12_weightOf_15 rfl (lv_at hl 0 rfl) ?_
      refine lv_aload_n hx hb dX12_weightOf_16 rfl (lv_at hl 0 rfl) ?_
      refine m_get E G 12 (v := .ref (ad 12)) (by decide) (.tail _ qM_9) rfl dX12_weightOf_17 rfl ?_
      refine lv_iload_n hx hb dX12_weightOf_20 rfl (lv_at hl 2 rfl) ?_
      obtain ⟨r7, S4, eS4, h⟩ := obind2_some h
      refine m_calli (As := [.ref (ad 12), .int l2]) (rest := [.int l1]) E G hA hR hml (tr_hears_12 l D cI cJ cZ ad S l2 eS4) (cwV 2 hts (gmV qM_274 qM_275 qM_276 qM_35 qM_272) rfl rfl rfl (by decide +kernel) ⟨Nat.le_of_ble_eq_true rfl, Nat.le_of_ble_eq_true rfl⟩) rfl hl.1 rfl (lv_room (Nat.le_of_ble_eq_true rfl)) dX12_weightOf_21 ⟨Nat.zero_le _, Nat.zero_le _⟩ (fun q5 S6 H locs hq G => ?_)
      obtain ⟨hq1, hq2⟩ := hq
      rw [hq2] at G
      refine lv_to hq1 ?_
      clear hq1 hq2 eS4
      refine lv_if_eq (tgt := 39) hx hb dX12_weightOf_24 (by decide) (fun c8 => ?_) (fun c8 => ?_)
      · have h := oif_pos c8 h
        refine lv_iconst (v := 0) hx hb dX12_weightOf_39 (by decide) ?_
        have hl := lv_sub hl [0, 2] rfl
        exact tr_weightOf_b40 E hA hR hml kr49 ih _ _ _ _ _ _ _ h G hl
      · have h := oif_neg c8 h
        refine lv_aload_n hx hb dX12_weightOf_27 rfl (lv_at hl 0 rfl) ?_
        refine m_get E G 12 (v := .ref (ad 12)) (by decide) (.tail _ qM_9) rfl dX12_weightOf_28 rfl ?_
        refine lv_bipush (v := 13) hx hb dX12_weightOf_31 (by decide) ?_
        refine lv_iload_n hx hb dX12_weightOf_33 rfl (lv_at hl 2 rfl) ?_
        refine lv_iadd hx hb dX12_weightOf_34 ?_
        refine lv_topi (fun v9 ev9 => ?_)
        have h := elet_at ev9 h
        clear ev9
        obtain ⟨g10, h⟩ := oif_some h
        refine m_iald E G 12 4 (n := 2455) (k := v9.toNatClampNeg) rfl (inb_k g10).1 (inb_k g10).2 (by decide) dX12_weightOf_35 ?_
        refine lv_topi (fun v11 ev11 => ?_)
        have h := elet_at ev11 h
        clear ev11
        refine lv_goto (tgt := 40) hx hb dX12_weightOf_36 (by decide) ?_
        have hl := lv_sub hl [0, 2] rfl
        exact tr_weightOf_b40 E hA hR hml kr49 ih _ _ _ _ _ _ _ h G hl
def fr_weightOf (S : MS)  : Option (Int32 × MS) := fr_weightOf_b4 16384 S 0 0
set_option maxHeartbeats 4000000 in
set_option maxRecDepth 100000 in
theorem tr_weightOf (l : Launch) (D : va_G) (cI cJ cZ : ClassId) (ad : Nat → Nat) (S : MS)  {r1 : Int32} {S1 : MS} (h : fr_weightOf S = some (r1, S1)) : mCi l yX12_weightOf (Cond.code yX12_weightOf cX12_weightOf 3 (some .int) :: wsM) 2 22 D cI cJ cZ ad S [] (fun r S9 => r = r1 ∧ S9 = S1) := by
  intro sz
  refine Met.ofW (cc := cX12_weightOf) (maxL := 3) (ret := (some .int)) (by decide) rfl ?_
  intro p e s m args below meth c s₁ B hml hv
  obtain ⟨rfl, hsz, hP, hK, hD0, hR⟩ := hv
  have hx := B.exec
  have hb := B.bytes
  have hr := B.returns
  have hts := atoms_spec (ws := (Cond.code yX12_weightOf cX12_weightOf 3 (some .int) :: wsM)) B.pre
  have hown : s.vm.findClass RX12 = some m.cls := findClass_of_methodNamed B.named
  have hlocks := B.notSynchronized
  subst hsz
  have hD := hD0.self (sz := s.heap.size)
  generalize hAe : va_A (MW cI cJ cZ ad S) s.heap.size = A at hD ⊢
  have hA : ∀ q : Nat, s.heap.size ≤ q → A q := fun q h => by rw [← hAe]; exact Or.inr h
  have G : mG D cI cJ cZ ad A s.heap s.heap [] S := ⟨hP, hD, va_S.rf⟩
  have E : mE p c cX12_weightOf s m ([.ref (ad 0)] : List Value).toArray (Cond.code yX12_weightOf cX12_weightOf 3 (some .int) :: wsM) D cI cJ cZ := ⟨hx, hb, hts, hown, hK, fun w h => .tail _ (iM_x h)⟩
  have hl := lv_entry ([.ref (ad 0)]) (n := 3) (Nat.le_of_ble_eq_true rfl)
  rw [lg_entry_eq]
  generalize (lg_sl ([.ref (ad 0)]) ++ List.replicate (3 - (lg_sl ([.ref (ad 0)])).length) Slot.unset).toArray = ls at hl ⊢
  have hl : lv_has ls 3 [(0, .ref (ad 0))] := hl
  unfold fr_weightOf at h
  refine lv_iconst (v := 0) hx hb dX12_weightOf_0 (by decide) ?_
  refine lv_istore_n (lv' := [(1, .int 0), (0, .ref (ad 0))]) hx hb dX12_weightOf_1 rfl hl (by decide) rfl (fun ls hl => ?_)
  refine lv_iconst (v := 0) hx hb dX12_weightOf_2 (by decide) ?_
  refine lv_istore_n (lv' := [(2, .int 0), (1, .int 0), (0, .ref (ad 0))]) hx hb dX12_weightOf_3 rfl hl (by decide) rfl (fun ls hl => ?_)
  have hl := lv_sub hl [2, 1, 0] rfl
  exact tr_weightOf_b4 E hA hR hml (fun H locs ls G => W.iret (v := r1) hx hb hr (fun t ht hW => ⟨⟨r1, S1, rfl, ⟨rfl, rfl⟩, ⟨by rw [ht]; exact G.1, va_K.moved hW.alike hK, G.2.1⟩⟩, G.2.2.F ht⟩) G.2.2.2.2 dX12_weightOf_49) _ _ _ _ _ _ _ h G hl
def fr_clean_b196 (k108 : MS → Int32 → Int32 → Int32 → Int32 → Option (Int32 × MS)) (S : MS) (l1 : Int32) (l2 : Int32) (l3 : Int32) (l4 : Int32) : Option (Int32 × MS) := elet (l4 + Int32.ofInt (1)) fun v2 => k108 S l1 l2 l3 v2
set_option maxHeartbeats 4000000 in
set_option maxRecDepth 100000 in
theorem tr_clean_b196 {p : Program} {l : Launch} {e : Env} {s : State} {m : MethodId} {args : Array Value} {below : List Frame} {meth : Method} {c : Code} {Q : State → Prop} {D : va_G} {A : Nat → Prop} {H0 : Heap} {cI cJ cZ : ClassId} {ad : Nat → Nat} {r1 : Int32} {S1 : MS} (E : mE p c cX12_clean s m args (Cond.code yX12_clean cX12_clean 6 (some .int) :: wsM) D cI cJ cZ) (hA : ∀ q : Nat, H0.size ≤ q → A q) (hR : sR s) (hml : c.maxLocals = 6) (kr45 : ∀ (H : Heap) (locs : List Loc) (ls : Array Slot), mG D cI cJ cZ ad A H0 H locs S1 → W p l e { frames := 8, cells := 0, slots := 0, locals := 163 } s m args below meth c H locs 0 0 Q (F0 m 45 ls [.int r1])) (kr213 : ∀ (H : Heap) (locs : List Loc) (ls : Array Slot), mG D cI cJ cZ ad A H0 H locs S1 → W p l e { frames := 8, cells := 0, slots := 0, locals := 163 } s m args below meth c H locs 0 0 Q (F0 m 213 ls [.int r1])) {k108 : MS → Int32 → Int32 → Int32 → Int32 → Option (Int32 × MS)} (hk108 : ∀ (S : MS) (H : Heap) (locs : List Loc) (ls : Array Slot) (l1 : Int32) (l2 : Int32) (l3 : Int32) (l4 : Int32), k108 S l1 l2 l3 l4 = some (r1, S1) → mG D cI cJ cZ ad A H0 H locs S → lv_has ls 6 [(0, .ref (ad 0)), (1, .int l1), (2, .int l2), (3, .int l3), (4, .int l4)] → W p l e { frames := 8, cells := 0, slots := 0, locals := 163 } s m args below meth c H locs 0 0 Q (F0 m 108 ls [])) : ∀ (S : MS) (H : Heap) (locs : List Loc) (ls : Array Slot) (l1 : Int32) (l2 : Int32) (l3 : Int32) (l4 : Int32), fr_clean_b196 k108 S l1 l2 l3 l4 = some (r1, S1) → mG D cI cJ cZ ad A H0 H locs S → lv_has ls 6 [(0, .ref (ad 0)), (1, .int l1), (2, .int l2), (3, .int l3), (4, .int l4)] → W p l e { frames := 8, cells := 0, slots := 0, locals := 163 } s m args below meth c H locs 0 0 Q (F0 m 196 ls []) := by
  have hx := E.1
  have hb := E.2.1
  have hts := E.2.2.1
  have hown := E.2.2.2.1
  have hK := E.2.2.2.2.1
  intro S H locs ls l1 l2 l3 l4 h G hl
  unfold fr_clean_b196 at h
  obtain ⟨v2, ev2, h⟩ := elet_some h
  refine lv_iinc (v := v2) (lv' := [(4, .int v2), (0, .ref (ad 0)), (1, .int l1), (2, .int l2), (3, .int l3)]) hx hb dX12_clean_196 hl (k := 4) rfl ev2.symm (by decide) rfl (fun ls hl => ?_)
  refine lv_goto (tgt := 108) hx hb dX12_clean_199 (by decide) ?_
  have hl := lv_sub hl [1, 2, 3, 4, 0] rfl
  exact hk108 _ _ _ _ _ _ _ _ h G hl
def fr_clean_b122 (k108 : MS → Int32 → Int32 → Int32 → Int32 → Option (Int32 × MS)) : Nat → MS → Int32 → Int32 → Int32 → Int32 → Int32 → Option (Int32 × MS)
  | 0, _, _, _, _, _, _ => none
  | n + 1, S, l1, l2, l3, l4, l5 => if l3 ≤ l5 then (fr_clean_b196 k108 S l1 l2 l3 l4) else (obind2 (fr_hears_12 S l4) fun r6 S3 => if r6 = 0 then (fr_clean_b196 k108 S3 l1 l2 l3 l4) else (elet (200 * l4) fun v8 => elet (55 + v8) fun v9 => elet (v9 + l5) fun v10 => oif (inb l4 12 = true) <| elet (S3.2.1 24 l4.toNatClampNeg) fun v12 => elet (v10 + v12) fun v13 => oif (inb v13 2455 = true) <| elet (S3.2.1 12 v13.toNatClampNeg) fun v15 => oif (inb l5 200 = true) <| elet (S3.2.1 29 l5.toNatClampNeg) fun v17 => elet (v17.toInt64) fun v18 => elet (l1.toInt64) fun v19 => elet (v18 * v19) fun v20 => obind2 (fr_weightOf S3) fun r24 S21 => elet (100 * r24) fun v25 => elet (v25.toInt64) fun v26 => oif (¬ v26 = 0) <| elet (v20 / v26) fun v28 => elet (v28.toInt32) fun v29 => elet (v15 - v29) fun v30 => oif (inb v13 2455 = true) <| elet (mf S21 12 (upd (S21.2.1 12) v13.toNatClampNeg v30)) fun S32 => elet (l5 + Int32.ofInt (1)) fun v33 => fr_clean_b122 k108 n S32 l1 l2 l3 l4 v33))
set_option maxHeartbeats 4000000 in
set_option maxRecDepth 100000 in
theorem tr_clean_b122 {p : Program} {l : Launch} {e : Env} {s : State} {m : MethodId} {args : Array Value} {below : List Frame} {meth : Method} {c : Code} {Q : State → Prop} {D : va_G} {A : Nat → Prop} {H0 : Heap} {cI cJ cZ : ClassId} {ad : Nat → Nat} {r1 : Int32} {S1 : MS} (E : mE p c cX12_clean s m args (Cond.code yX12_clean cX12_clean 6 (some .int) :: wsM) D cI cJ cZ) (hA : ∀ q : Nat, H0.size ≤ q → A q) (hR : sR s) (hml : c.maxLocals = 6) (kr45 : ∀ (H : Heap) (locs : List Loc) (ls : Array Slot), mG D cI cJ cZ ad A H0 H locs S1 → W p l e { frames := 8, cells := 0, slots := 0, locals := 163 } s m args below meth c H locs 0 0 Q (F0 m 45 ls [.int r1])) (kr213 : ∀ (H : Heap) (locs : List Loc) (ls : Array Slot), mG D cI cJ cZ ad A H0 H locs S1 → W p l e { frames := 8, cells := 0, slots := 0, locals := 163 } s m args below meth c H locs 0 0 Q (F0 m 213 ls [.int r1])) {k108 : MS → Int32 → Int32 → Int32 → Int32 → Option (Int32 × MS)} (hk108 : ∀ (S : MS) (H : Heap) (locs : List Loc) (ls : Array Slot) (l1 : Int32) (l2 : Int32) (l3 : Int32) (l4 : Int32), k108 S l1 l2 l3 l4 = some (r1, S1) → mG D cI cJ cZ ad A H0 H locs S → lv_has ls 6 [(0, .ref (ad 0)), (1, .int l1), (2, .int l2), (3, .int l3), (4, .int l4)] → W p l e { frames := 8, cells := 0, slots := 0, locals := 163 } s m args below meth c H locs 0 0 Q (F0 m 108 ls [])) : ∀ n : Nat, ∀ (S : MS) (H : Heap) (locs : List Loc) (ls : Array Slot) (l1 : Int32) (l2 : Int32) (l3 : Int32) (l4 : Int32) (l5 : Int32), fr_clean_b122 k108 n S l1 l2 l3 l4 l5 = some (r1, S1) → mG D cI cJ cZ ad A H0 H locs S → lv_has ls 6 [(0, .ref (ad 0)), (1, .int l1), (2, .int l2), (3, .int l3), (4, .int l4), (5, .int l5)] → W p l e { frames := 8, cells := 0, slots := 0, locals := 163 } s m args below meth c H locs 0 0 Q (F0 m 122 ls []) := by
  have hx := E.1
  have hb := E.2.1
  have hts := E.2.2.1
  have hown := E.2.2.2.1
  have hK := E.2.2.2.2.1
  intro n
  induction n with
  | zero =>
    intro S H locs ls l1 l2 l3 l4 l5 h
    have h : (none : Option (Int32 × MS)) = some (r1, S1) := h
    cases h
  | succ n ih =>
    intro S H locs ls l1 l2 l3 l4 l5 h G hl
    unfold fr_clean_b122 at h
    refine lv_iload hx hb dX12_clean_122 (lv_at hl 5 rfl) ?_
    refine lv_iload_n hx hb dX12_clean_124 rfl (lv_at hl 3 rfl) ?_
    refine lv_icmp_ge (tgt := 196) hx hb dX12_clean_125 (by decide) (fun c2 => ?_) (fun c2 => ?_)
    · have h := oif_pos c2 h
      have hl := lv_sub hl [0, 1, 2, 3, 4] rfl
      exact tr_clean_b196 E hA hR hml kr45 kr213 hk108 _ _ _ _ _ _ _ _ h G hl
    · have h := oif_neg c2 h
      refine lv_aload_n hx hb dX12_clean_128 rfl (lv_at hl 0 rfl) ?_
      refine lv_aload_n hx hb dX12_clean_129 rfl (lv_at hl 0 rfl) ?_
      refine m_get E G 12 (v := .ref (ad 12)) (by decide) (.tail _ qM_9) rfl dX12_clean_130 rfl ?_
      refine lv_iload hx hb dX12_clean_133 (lv_at hl 4 rfl) ?_
      obtain ⟨r6, S3, eS3, h⟩ := obind2_some h
      refine m_calli (As := [.ref (ad 12), .int l4]) (rest := []) E G hA hR hml (tr_hears_12 l D cI cJ cZ ad S l4 eS3) (cwV 2 hts (gmV qM_274 qM_275 qM_276 qM_35 qM_272) rfl rfl rfl (by decide +kernel) ⟨Nat.le_of_ble_eq_true rfl, Nat.le_of_ble_eq_true rfl⟩) rfl hl.1 rfl (lv_room (Nat.le_of_ble_eq_true rfl)) dX12_clean_135 ⟨Nat.zero_le _, Nat.zero_le _⟩ (fun q4 S5 H locs hq G => ?_)
      obtain ⟨hq1, hq2⟩ := hq
      rw [hq2] at G
      refine lv_to hq1 ?_
      clear hq1 hq2 eS3
      refine lv_if_eq (tgt := 196) hx hb dX12_clean_138 (by decide) (fun c7 => ?_) (fun c7 => ?_)
      · have h := oif_pos c7 h
        have hl := lv_sub hl [0, 1, 2, 3, 4] rfl
        exact tr_clean_b196 E hA hR hml kr45 kr213 hk108 _ _ _ _ _ _ _ _ h G hl
      · have h := oif_neg c7 h
        refine lv_aload_n hx hb dX12_clean_141 rfl (lv_at hl 0 rfl) ?_
        refine m_get E G 12 (v := .ref (ad 12)) (by decide) (.tail _ qM_9) rfl dX12_clean_142 rfl ?_
        refine lv_bipush (v := 55) hx hb dX12_clean_145 (by decide) ?_
        refine lv_sipush (v := 200) hx hb dX12_clean_147 (by decide) ?_
        refine lv_iload hx hb dX12_clean_150 (lv_at hl 4 rfl) ?_
        refine lv_imul hx hb dX12_clean_152 ?_
        refine lv_topi (fun v8 ev8 => ?_)
        have h := elet_at ev8 h
        clear ev8
        refine lv_iadd hx hb dX12_clean_153 ?_
        refine lv_topi (fun v9 ev9 => ?_)
        have h := elet_at ev9 h
        clear ev9
        refine lv_iload hx hb dX12_clean_154 (lv_at hl 5 rfl) ?_
        refine lv_iadd hx hb dX12_clean_156 ?_
        refine lv_topi (fun v10 ev10 => ?_)
        have h := elet_at ev10 h
        clear ev10
        refine lv_aload_n hx hb dX12_clean_157 rfl (lv_at hl 0 rfl) ?_
        refine m_get E G 24 (v := .ref (ad 24)) (by decide) (.tail _ qM_19) rfl dX12_clean_158 rfl ?_
        refine lv_iload hx hb dX12_clean_161 (lv_at hl 4 rfl) ?_
        obtain ⟨g11, h⟩ := oif_some h
        refine m_iald E G 24 12 (n := 12) (k := l4.toNatClampNeg) rfl (inb_k g11).1 (inb_k g11).2 (by decide) dX12_clean_163 ?_
        refine lv_topi (fun v12 ev12 => ?_)
        have h := elet_at ev12 h
        clear ev12
        refine lv_iadd hx hb dX12_clean_164 ?_
        refine lv_topi (fun v13 ev13 => ?_)
        have h := elet_at ev13 h
        clear ev13
        refine lv_dup2_11 hx hb dX12_clean_165 rfl rfl ?_
        obtain ⟨g14, h⟩ := oif_some h
        refine m_iald E G 12 4 (n := 2455) (k := v13.toNatClampNeg) rfl (inb_k g14).1 (inb_k g14).2 (by decide) dX12_clean_166 ?_
        refine lv_topi (fun v15 ev15 => ?_)
        have h := elet_at ev15 h
        clear ev15
        refine lv_aload_n hx hb dX12_clean_167 rfl (lv_at hl 0 rfl) ?_
        refine m_get E G 29 (v := .ref (ad 29)) (by decide) (.tail _ qM_24) rfl dX12_clean_168 rfl ?_
        refine lv_iload hx hb dX12_clean_171 (lv_at hl 5 rfl) ?_
        obtain ⟨g16, h⟩ := oif_some h
        refine m_iald E G 29 16 (n := 200) (k := l5.toNatClampNeg) rfl (inb_k g16).1 (inb_k g16).2 (by decide) dX12_clean_173 ?_
        refine lv_topi (fun v17 ev17 => ?_)
        have h := elet_at ev17 h
        clear ev17
        refine lv_i2l (v := v17.toInt64) hx hb dX12_clean_174 rfl ?_
        refine lv_topl (fun v18 ev18 => ?_)
        have h := elet_at ev18 h
        clear ev18
        refine lv_iload_n hx hb dX12_clean_175 rfl (lv_at hl 1 rfl) ?_
        refine lv_i2l (v := l1.toInt64) hx hb dX12_clean_176 rfl ?_
        refine lv_topl (fun v19 ev19 => ?_)
        have h := elet_at ev19 h
        clear ev19
        refine lv_lmul hx hb dX12_clean_177 ?_
        refine lv_topl (fun v20 ev20 => ?_)
        have h := elet_at ev20 h
        clear ev20
        refine lv_bipush (v := 100) hx hb dX12_clean_178 (by decide) ?_
        refine lv_aload_n hx hb dX12_clean_180 rfl (lv_at hl 0 rfl) ?_
        obtain ⟨r24, S21, eS21, h⟩ := obind2_some h
        refine m_calli (As := []) (rest := [.int 100, .long v20, .int v15, .int v13, .ref (ad 12)]) E G hA hR hml (tr_weightOf l D cI cJ cZ ad S3 eS21) (cwV 0 hts (gmV qM_497 qM_498 qM_499 qM_35 qM_495) rfl rfl rfl (by decide +kernel) ⟨Nat.le_of_ble_eq_true rfl, Nat.le_of_ble_eq_true rfl⟩) rfl hl.1 rfl (lv_room (Nat.le_of_ble_eq_true rfl)) dX12_clean_181 ⟨Nat.zero_le _, Nat.zero_le _⟩ (fun q22 S23 H locs hq G => ?_)
        obtain ⟨hq1, hq2⟩ := hq
        rw [hq2] at G
        refine lv_to hq1 ?_
        clear hq1 hq2 eS21
        refine lv_imul hx hb dX12_clean_184 ?_
        refine lv_topi (fun v25 ev25 => ?_)
        have h := elet_at ev25 h
        clear ev25
        refine lv_i2l (v := v25.toInt64) hx hb dX12_clean_185 rfl ?_
        refine lv_topl (fun v26 ev26 => ?_)
        have h := elet_at ev26 h
        clear ev26
        obtain ⟨g27, h⟩ := oif_some h
        refine lv_ldiv hx hb dX12_clean_186 g27 ?_
        refine lv_topl (fun v28 ev28 => ?_)
        have h := elet_at ev28 h
        clear ev28
        refine lv_l2i (v := v28.toInt32) hx hb dX12_clean_187 rfl ?_
        refine lv_topi (fun v29 ev29 => ?_)
        have h := elet_at ev29 h
        clear ev29
        refine lv_isub hx hb dX12_clean_188 ?_
        refine lv_topi (fun v30 ev30 => ?_)
        have h := elet_at ev30 h
        clear ev30
        obtain ⟨g31, h⟩ := oif_some h
        refine m_iast E G 12 4 (k := v13.toNatClampNeg) (v := v30) rfl (fun _ => rfl) (inb_k g31).1 (inb_k g31).2 (by decide) dX12_clean_189 (fun H locs G => ?_)
        obtain ⟨S32, eS32, h⟩ := elet_some h
        rw [← eS32] at G
        clear eS32
        obtain ⟨v33, ev33, h⟩ := elet_some h
        refine lv_iinc (v := v33) (lv' := [(5, .int v33), (0, .ref (ad 0)), (1, .int l1), (2, .int l2), (3, .int l3), (4, .int l4)]) hx hb dX12_clean_190 hl (k := 5) rfl ev33.symm (by decide) rfl (fun ls hl => ?_)
        refine lv_goto (tgt := 122) hx hb dX12_clean_193 (by decide) ?_
        have hl := lv_sub hl [1, 2, 3, 4, 5, 0] rfl
        exact ih _ _ _ _ _ _ _ _ _ h G hl
def fr_clean_b108  : Nat → MS → Int32 → Int32 → Int32 → Int32 → Option (Int32 × MS)
  | 0, _, _, _, _, _ => none
  | n + 1, S, l1, l2, l3, l4 => elet (S.2.1 10 4) fun v2 => if v2 ≤ l4 then (elet (S.2.1 12 0) fun v4 => elet (v4 + 1) fun v5 => elet (mf S 12 (upd (S.2.1 12) 0 v5)) fun S6 => some (l2, S6)) else (fr_clean_b122 (fr_clean_b108 n) 16384 S l1 l2 l3 l4 0)
set_option maxHeartbeats 4000000 in
set_option maxRecDepth 100000 in
theorem tr_clean_b108 {p : Program} {l : Launch} {e : Env} {s : State} {m : MethodId} {args : Array Value} {below : List Frame} {meth : Method} {c : Code} {Q : State → Prop} {D : va_G} {A : Nat → Prop} {H0 : Heap} {cI cJ cZ : ClassId} {ad : Nat → Nat} {r1 : Int32} {S1 : MS} (E : mE p c cX12_clean s m args (Cond.code yX12_clean cX12_clean 6 (some .int) :: wsM) D cI cJ cZ) (hA : ∀ q : Nat, H0.size ≤ q → A q) (hR : sR s) (hml : c.maxLocals = 6) (kr45 : ∀ (H : Heap) (locs : List Loc) (ls : Array Slot), mG D cI cJ cZ ad A H0 H locs S1 → W p l e { frames := 8, cells := 0, slots := 0, locals := 163 } s m args below meth c H locs 0 0 Q (F0 m 45 ls [.int r1])) (kr213 : ∀ (H : Heap) (locs : List Loc) (ls : Array Slot), mG D cI cJ cZ ad A H0 H locs S1 → W p l e { frames := 8, cells := 0, slots := 0, locals := 163 } s m args below meth c H locs 0 0 Q (F0 m 213 ls [.int r1])) : ∀ n : Nat, ∀ (S : MS) (H : Heap) (locs : List Loc) (ls : Array Slot) (l1 : Int32) (l2 : Int32) (l3 : Int32) (l4 : Int32), fr_clean_b108 n S l1 l2 l3 l4 = some (r1, S1) → mG D cI cJ cZ ad A H0 H locs S → lv_has ls 6 [(0, .ref (ad 0)), (1, .int l1), (2, .int l2), (3, .int l3), (4, .int l4)] → W p l e { frames := 8, cells := 0, slots := 0, locals := 163 } s m args below meth c H locs 0 0 Q (F0 m 108 ls []) := by
  have hx := E.1
  have hb := E.2.1
  have hts := E.2.2.1
  have hown := E.2.2.2.1
  have hK := E.2.2.2.2.1
  intro n
  induction n with
  | zero =>
    intro S H locs ls l1 l2 l3 l4 h
    have h : (none : Option (Int32 × MS)) = some (r1, S1) := h
    cases h
  | succ n ih =>
    intro S H locs ls l1 l2 l3 l4 h G hl
    unfold fr_clean_b108 at h
    refine lv_iload hx hb dX12_clean_108 (lv_at hl 4 rfl) ?_
    refine lv_aload_n hx hb dX12_clean_110 rfl (lv_at hl 0 rfl) ?_
    refine m_get E G 10 (v := .ref (ad 10)) (by decide) (.tail _ qM_7) rfl dX12_clean_111 rfl ?_
    refine lv_iconst (v := 4) hx hb dX12_clean_114 (by decide) ?_
    refine m_iald E G 10 2 (n := 131) (k := 4) rfl rfl (by decide) (by decide) dX12_clean_115 ?_
    refine lv_topi (fun v2 ev2 => ?_)
    have h := elet_at ev2 h
    clear ev2
    refine lv_icmp_ge (tgt := 202) hx hb dX12_clean_116 (by decide) (fun c3 => ?_) (fun c3 => ?_)
    · have h := oif_pos c3 h
      refine lv_aload_n hx hb dX12_clean_202 rfl (lv_at hl 0 rfl) ?_
      refine m_get E G 12 (v := .ref (ad 12)) (by decide) (.tail _ qM_9) rfl dX12_clean_203 rfl ?_
      refine lv_iconst (v := 0) hx hb dX12_clean_206 (by decide) ?_
      refine lv_dup2_11 hx hb dX12_clean_207 rfl rfl ?_
      refine m_iald E G 12 4 (n := 2455) (k := 0) rfl rfl (by decide) (by decide) dX12_clean_208 ?_
      refine lv_topi (fun v4 ev4 => ?_)
      have h := elet_at ev4 h
      clear ev4
      refine lv_iconst (v := 1) hx hb dX12_clean_209 (by decide) ?_
      refine lv_iadd hx hb dX12_clean_210 ?_
      refine lv_topi (fun v5 ev5 => ?_)
      have h := elet_at ev5 h
      clear ev5
      refine m_iast E G 12 4 (k := 0) (v := v5) rfl (fun _ => rfl) rfl (by decide) (by decide) dX12_clean_211 (fun H locs G => ?_)
      obtain ⟨S6, eS6, h⟩ := elet_some h
      rw [← eS6] at G
      clear eS6
      refine lv_iload_n hx hb dX12_clean_212 rfl (lv_at hl 2 rfl) ?_
      rw [(osome2 h).2] at G
      refine lv_to (osome2 h).1 ?_
      exact kr213 _ _ _ G
    · have h := oif_neg c3 h
      refine lv_iconst (v := 0) hx hb dX12_clean_119 (by decide) ?_
      refine lv_istore (lv' := [(5, .int 0), (0, .ref (ad 0)), (1, .int l1), (2, .int l2), (3, .int l3), (4, .int l4)]) hx hb dX12_clean_120 hl (by decide) rfl (fun ls hl => ?_)
      have hl := lv_sub hl [1, 2, 3, 4, 5, 0] rfl
      exact tr_clean_b122 E hA hR hml kr45 kr213 ih _ _ _ _ _ _ _ _ _ _ h G hl
def fr_clean_b76  : Nat → MS → Int32 → Int32 → Int32 → Int32 → Option (Int32 × MS)
  | 0, _, _, _, _, _ => none
  | n + 1, S, l1, l2, l3, l4 => if l3 ≤ l4 then (fr_clean_b108 16384 S l1 l2 l3 0) else (obind2 (fr_beamAt_12 S l4) fun r6 S3 => oif (inb l4 200 = true) <| elet (mf S3 29 (upd (S3.2.1 29) l4.toNatClampNeg r6)) fun S8 => elet (l4 + Int32.ofInt (1)) fun v9 => fr_clean_b76 n S8 l1 l2 l3 v9)
set_option maxHeartbeats 4000000 in
set_option maxRecDepth 100000 in
theorem tr_clean_b76 {p : Program} {l : Launch} {e : Env} {s : State} {m : MethodId} {args : Array Value} {below : List Frame} {meth : Method} {c : Code} {Q : State → Prop} {D : va_G} {A : Nat → Prop} {H0 : Heap} {cI cJ cZ : ClassId} {ad : Nat → Nat} {r1 : Int32} {S1 : MS} (E : mE p c cX12_clean s m args (Cond.code yX12_clean cX12_clean 6 (some .int) :: wsM) D cI cJ cZ) (hA : ∀ q : Nat, H0.size ≤ q → A q) (hR : sR s) (hml : c.maxLocals = 6) (kr45 : ∀ (H : Heap) (locs : List Loc) (ls : Array Slot), mG D cI cJ cZ ad A H0 H locs S1 → W p l e { frames := 8, cells := 0, slots := 0, locals := 163 } s m args below meth c H locs 0 0 Q (F0 m 45 ls [.int r1])) (kr213 : ∀ (H : Heap) (locs : List Loc) (ls : Array Slot), mG D cI cJ cZ ad A H0 H locs S1 → W p l e { frames := 8, cells := 0, slots := 0, locals := 163 } s m args below meth c H locs 0 0 Q (F0 m 213 ls [.int r1])) : ∀ n : Nat, ∀ (S : MS) (H : Heap) (locs : List Loc) (ls : Array Slot) (l1 : Int32) (l2 : Int32) (l3 : Int32) (l4 : Int32), fr_clean_b76 n S l1 l2 l3 l4 = some (r1, S1) → mG D cI cJ cZ ad A H0 H locs S → lv_has ls 6 [(0, .ref (ad 0)), (1, .int l1), (2, .int l2), (3, .int l3), (4, .int l4)] → W p l e { frames := 8, cells := 0, slots := 0, locals := 163 } s m args below meth c H locs 0 0 Q (F0 m 76 ls []) := by
  have hx := E.1
  have hb := E.2.1
  have hts := E.2.2.1
  have hown := E.2.2.2.1
  have hK := E.2.2.2.2.1
  intro n
  induction n with
  | zero =>
    intro S H locs ls l1 l2 l3 l4 h
    have h : (none : Option (Int32 × MS)) = some (r1, S1) := h
    cases h
  | succ n ih =>
    intro S H locs ls l1 l2 l3 l4 h G hl
    unfold fr_clean_b76 at h
    refine lv_iload hx hb dX12_clean_76 (lv_at hl 4 rfl) ?_
    refine lv_iload_n hx hb dX12_clean_78 rfl (lv_at hl 3 rfl) ?_
    refine lv_icmp_ge (tgt := 105) hx hb dX12_clean_79 (by decide) (fun c2 => ?_) (fun c2 => ?_)
    · have h := oif_pos c2 h
      refine lv_iconst (v := 0) hx hb dX12_clean_105 (by decide) ?_
      refine lv_istore (lv' := [(4, .int 0), (0, .ref (ad 0)), (1, .int l1), (2, .int l2), (3, .int l3)]) hx hb dX12_clean_106 hl (by decide) rfl (fun ls hl => ?_)
      have hl := lv_sub hl [1, 2, 3, 4, 0] rfl
      exact tr_clean_b108 E hA hR hml kr45 kr213 _ _ _ _ _ _ _ _ _ h G hl
    · have h := oif_neg c2 h
      refine lv_aload_n hx hb dX12_clean_82 rfl (lv_at hl 0 rfl) ?_
      refine m_get E G 29 (v := .ref (ad 29)) (by decide) (.tail _ qM_24) rfl dX12_clean_83 rfl ?_
      refine lv_iload hx hb dX12_clean_86 (lv_at hl 4 rfl) ?_
      refine lv_aload_n hx hb dX12_clean_88 rfl (lv_at hl 0 rfl) ?_
      refine lv_aload_n hx hb dX12_clean_89 rfl (lv_at hl 0 rfl) ?_
      refine m_get E G 12 (v := .ref (ad 12)) (by decide) (.tail _ qM_9) rfl dX12_clean_90 rfl ?_
      refine lv_iload hx hb dX12_clean_93 (lv_at hl 4 rfl) ?_
      obtain ⟨r6, S3, eS3, h⟩ := obind2_some h
      refine m_calli (As := [.ref (ad 12), .int l4]) (rest := [.int l4, .ref (ad 29)]) E G hA hR hml (tr_beamAt_12 l D cI cJ cZ ad S l4 eS3) (cwV 2 hts (gmV qM_279 qM_280 qM_281 qM_35 qM_277) rfl rfl rfl (by decide +kernel) ⟨Nat.le_of_ble_eq_true rfl, Nat.le_of_ble_eq_true rfl⟩) rfl hl.1 rfl (lv_room (Nat.le_of_ble_eq_true rfl)) dX12_clean_95 ⟨Nat.zero_le _, Nat.zero_le _⟩ (fun q4 S5 H locs hq G => ?_)
      obtain ⟨hq1, hq2⟩ := hq
      rw [hq2] at G
      refine lv_to hq1 ?_
      clear hq1 hq2 eS3
      obtain ⟨g7, h⟩ := oif_some h
      refine m_iast E G 29 16 (k := l4.toNatClampNeg) (v := r6) rfl (fun _ => rfl) (inb_k g7).1 (inb_k g7).2 (by decide) dX12_clean_98 (fun H locs G => ?_)
      obtain ⟨S8, eS8, h⟩ := elet_some h
      rw [← eS8] at G
      clear eS8
      obtain ⟨v9, ev9, h⟩ := elet_some h
      refine lv_iinc (v := v9) (lv' := [(4, .int v9), (0, .ref (ad 0)), (1, .int l1), (2, .int l2), (3, .int l3)]) hx hb dX12_clean_99 hl (k := 4) rfl ev9.symm (by decide) rfl (fun ls hl => ?_)
      refine lv_goto (tgt := 76) hx hb dX12_clean_102 (by decide) ?_
      have hl := lv_sub hl [1, 2, 3, 4, 0] rfl
      exact ih _ _ _ _ _ _ _ _ h G hl
def fr_clean_b34  (S : MS) (s0 : Int32) (l1 : Int32) : Option (Int32 × MS) := elet (mi S 0 s0) fun S2 => elet (S2.1 0) fun v3 => if v3 ≤ 0 then (obind (fr_remember S2) fun S5 => obind2 (fr_bestIn_12 S5) fun r11 S8 => obind (fr_laysCell S8 r11) fun S12 => obind2 (fr_windowOf_12 S12) fun r18 S15 => fr_clean_b76 16384 S15 l1 r11 r18 0) else (some (0, S2))
set_option maxHeartbeats 4000000 in
set_option maxRecDepth 100000 in
theorem tr_clean_b34 {p : Program} {l : Launch} {e : Env} {s : State} {m : MethodId} {args : Array Value} {below : List Frame} {meth : Method} {c : Code} {Q : State → Prop} {D : va_G} {A : Nat → Prop} {H0 : Heap} {cI cJ cZ : ClassId} {ad : Nat → Nat} {r1 : Int32} {S1 : MS} (E : mE p c cX12_clean s m args (Cond.code yX12_clean cX12_clean 6 (some .int) :: wsM) D cI cJ cZ) (hA : ∀ q : Nat, H0.size ≤ q → A q) (hR : sR s) (hml : c.maxLocals = 6) (kr45 : ∀ (H : Heap) (locs : List Loc) (ls : Array Slot), mG D cI cJ cZ ad A H0 H locs S1 → W p l e { frames := 8, cells := 0, slots := 0, locals := 163 } s m args below meth c H locs 0 0 Q (F0 m 45 ls [.int r1])) (kr213 : ∀ (H : Heap) (locs : List Loc) (ls : Array Slot), mG D cI cJ cZ ad A H0 H locs S1 → W p l e { frames := 8, cells := 0, slots := 0, locals := 163 } s m args below meth c H locs 0 0 Q (F0 m 213 ls [.int r1])) : ∀ (S : MS) (H : Heap) (locs : List Loc) (ls : Array Slot) (s0 : Int32) (l1 : Int32), fr_clean_b34 S s0 l1 = some (r1, S1) → mG D cI cJ cZ ad A H0 H locs S → lv_has ls 6 [(0, .ref (ad 0)), (1, .int l1)] → W p l e { frames := 8, cells := 0, slots := 0, locals := 163 } s m args below meth c H locs 0 0 Q (F0 m 34 ls [.int s0, .ref (ad 0)]) := by
  have hx := E.1
  have hb := E.2.1
  have hts := E.2.2.1
  have hown := E.2.2.2.1
  have hK := E.2.2.2.2.1
  intro S H locs ls s0 l1 h G hl
  unfold fr_clean_b34 at h
  refine m_put E G 0 (by decide) (.tail _ qM_26) (mw_i0 _ _ _ _ _ s0) dX12_clean_34 ⟨rfl, rfl, rfl⟩ rfl rfl (fun H locs G => ?_)
  obtain ⟨S2, eS2, h⟩ := elet_some h
  rw [← eS2] at G
  clear eS2
  refine lv_aload_n hx hb dX12_clean_37 rfl (lv_at hl 0 rfl) ?_
  refine m_get E G 0 (v := .int (S2.1 0)) (by decide) (.tail _ qM_26) rfl dX12_clean_38 rfl ?_
  refine lv_topi (fun v3 ev3 => ?_)
  have h := elet_at ev3 h
  clear ev3
  refine lv_if_le (tgt := 46) hx hb dX12_clean_41 (by decide) (fun c4 => ?_) (fun c4 => ?_)
  · have h := oif_pos c4 h
    refine lv_aload_n hx hb dX12_clean_46 rfl (lv_at hl 0 rfl) ?_
    obtain ⟨S5, eS5, h⟩ := obind_some h
    refine m_callv (As := []) (rest := []) E G hA hR hml (tr_remember l D cI cJ cZ ad S2 eS5) (cwV 0 hts (gmV qM_480 qM_481 qM_482 qM_35 qM_268) rfl rfl rfl (by decide +kernel) ⟨Nat.le_of_ble_eq_true rfl, Nat.le_of_ble_eq_true rfl⟩) rfl hl.1 rfl (lv_room (Nat.le_of_ble_eq_true rfl)) dX12_clean_47 ⟨Nat.zero_le _, Nat.zero_le _⟩ (fun S7 H locs hq G => ?_)
    rw [hq] at G
    clear hq eS5
    refine lv_aload_n hx hb dX12_clean_50 rfl (lv_at hl 0 rfl) ?_
    refine lv_aload_n hx hb dX12_clean_51 rfl (lv_at hl 0 rfl) ?_
    refine m_get E G 12 (v := .ref (ad 12)) (by decide) (.tail _ qM_9) rfl dX12_clean_52 rfl ?_
    obtain ⟨r11, S8, eS8, h⟩ := obind2_some h
    refine m_calli (As := [.ref (ad 12)]) (rest := []) E G hA hR hml (tr_bestIn_12 l D cI cJ cZ ad S5 eS8) (cwV 1 hts (gmV qM_360 qM_361 qM_362 qM_35 qM_300) rfl rfl rfl (by decide +kernel) ⟨Nat.le_of_ble_eq_true rfl, Nat.le_of_ble_eq_true rfl⟩) rfl hl.1 rfl (lv_room (Nat.le_of_ble_eq_true rfl)) dX12_clean_55 ⟨Nat.zero_le _, Nat.zero_le _⟩ (fun q9 S10 H locs hq G => ?_)
    obtain ⟨hq1, hq2⟩ := hq
    rw [hq2] at G
    refine lv_to hq1 ?_
    clear hq1 hq2 eS8
    refine lv_istore_n (lv' := [(2, .int r11), (0, .ref (ad 0)), (1, .int l1)]) hx hb dX12_clean_58 rfl hl (by decide) rfl (fun ls hl => ?_)
    refine lv_aload_n hx hb dX12_clean_59 rfl (lv_at hl 1 rfl) ?_
    refine lv_iload_n hx hb dX12_clean_60 rfl (lv_at hl 0 rfl) ?_
    obtain ⟨S12, eS12, h⟩ := obind_some h
    refine m_callv (As := [.int r11]) (rest := []) E G hA hR hml (tr_laysCell l D cI cJ cZ ad S8 r11 eS12) (cwV 1 hts (gmV qM_290 qM_291 qM_292 qM_35 qM_270) rfl rfl rfl (by decide +kernel) ⟨Nat.le_of_ble_eq_true rfl, Nat.le_of_ble_eq_true rfl⟩) rfl hl.1 rfl (lv_room (Nat.le_of_ble_eq_true rfl)) dX12_clean_61 ⟨Nat.zero_le _, Nat.zero_le _⟩ (fun S14 H locs hq G => ?_)
    rw [hq] at G
    clear hq eS12
    refine lv_aload_n hx hb dX12_clean_64 rfl (lv_at hl 1 rfl) ?_
    refine lv_aload_n hx hb dX12_clean_65 rfl (lv_at hl 1 rfl) ?_
    refine m_get E G 12 (v := .ref (ad 12)) (by decide) (.tail _ qM_9) rfl dX12_clean_66 rfl ?_
    obtain ⟨r18, S15, eS15, h⟩ := obind2_some h
    refine m_calli (As := [.ref (ad 12)]) (rest := []) E G hA hR hml (tr_windowOf_12 l D cI cJ cZ ad S12 eS15) (cwV 1 hts (gmV qM_283 qM_284 qM_285 qM_35 qM_273) rfl rfl rfl (by decide +kernel) ⟨Nat.le_of_ble_eq_true rfl, Nat.le_of_ble_eq_true rfl⟩) rfl hl.1 rfl (lv_room (Nat.le_of_ble_eq_true rfl)) dX12_clean_69 ⟨Nat.zero_le _, Nat.zero_le _⟩ (fun q16 S17 H locs hq G => ?_)
    obtain ⟨hq1, hq2⟩ := hq
    rw [hq2] at G
    refine lv_to hq1 ?_
    clear hq1 hq2 eS15
    refine lv_istore_n (lv' := [(3, .int r18), (2, .int r11), (0, .ref (ad 0)), (1, .int l1)]) hx hb dX12_clean_72 rfl hl (by decide) rfl (fun ls hl => ?_)
    refine lv_iconst (v := 0) hx hb dX12_clean_73 (by decide) ?_
    refine lv_istore (lv' := [(4, .int 0), (3, .int r18), (2, .int r11), (0, .ref (ad 0)), (1, .int l1)]) hx hb dX12_clean_74 hl (by decide) rfl (fun ls hl => ?_)
    have hl := lv_sub hl [3, 4, 2, 1, 0] rfl
    exact tr_clean_b76 E hA hR hml kr45 kr213 _ _ _ _ _ _ _ _ _ h G hl
  · have h := oif_neg c4 h
    refine lv_iconst (v := 0) hx hb dX12_clean_44 (by decide) ?_
    rw [(osome2 h).2] at G
    refine lv_to (osome2 h).1 ?_
    exact kr45 _ _ _ G
def fr_clean_b15  (S : MS) (l1 : Int32) : Option (Int32 × MS) := fr_clean_b34 S 1 l1
set_option maxHeartbeats 4000000 in
set_option maxRecDepth 100000 in
theorem tr_clean_b15 {p : Program} {l : Launch} {e : Env} {s : State} {m : MethodId} {args : Array Value} {below : List Frame} {meth : Method} {c : Code} {Q : State → Prop} {D : va_G} {A : Nat → Prop} {H0 : Heap} {cI cJ cZ : ClassId} {ad : Nat → Nat} {r1 : Int32} {S1 : MS} (E : mE p c cX12_clean s m args (Cond.code yX12_clean cX12_clean 6 (some .int) :: wsM) D cI cJ cZ) (hA : ∀ q : Nat, H0.size ≤ q → A q) (hR : sR s) (hml : c.maxLocals = 6) (kr45 : ∀ (H : Heap) (locs : List Loc) (ls : Array Slot), mG D cI cJ cZ ad A H0 H locs S1 → W p l e { frames := 8, cells := 0, slots := 0, locals := 163 } s m args below meth c H locs 0 0 Q (F0 m 45 ls [.int r1])) (kr213 : ∀ (H : Heap) (locs : List Loc) (ls : Array Slot), mG D cI cJ cZ ad A H0 H locs S1 → W p l e { frames := 8, cells := 0, slots := 0, locals := 163 } s m args below meth c H locs 0 0 Q (F0 m 213 ls [.int r1])) : ∀ (S : MS) (H : Heap) (locs : List Loc) (ls : Array Slot) (l1 : Int32), fr_clean_b15 S l1 = some (r1, S1) → mG D cI cJ cZ ad A H0 H locs S → lv_has ls 6 [(0, .ref (ad 0)), (1, .int l1)] → W p l e { frames := 8, cells := 0, slots := 0, locals := 163 } s m args below meth c H locs 0 0 Q (F0 m 15 ls [.ref (ad 0)]) := by
  have hx := E.1
  have hb := E.2.1
  have hts := E.2.2.1
  have hown := E.2.2.2.1
  have hK := E.2.2.2.2.1
  intro S H locs ls l1 h G hl
  unfold fr_clean_b15 at h
  refine lv_iconst (v := 1) hx hb dX12_clean_15 (by decide) ?_
  refine lv_goto (tgt := 34) hx hb dX12_clean_16 (by decide) ?_
  have hl := lv_sub hl [0, 1] rfl
  exact tr_clean_b34 E hA hR hml kr45 kr213 _ _ _ _ _ _ h G hl
def fr_clean (S : MS) (a0 : Int32) : Option (Int32 × MS) := elet (S.1 20) fun v2 => if v2 = 0 then (fr_clean_b15 S a0) else (obind2 (fr_weightOf S) fun r7 S4 => if r7 = 0 then (fr_clean_b15 S4 a0) else (obind (fr_in a0 1 100) fun r9 => if r9 = 0 then (fr_clean_b34 S4 2 a0) else (fr_clean_b34 S4 0 a0)))
set_option maxHeartbeats 4000000 in
set_option maxRecDepth 100000 in
theorem tr_clean (l : Launch) (D : va_G) (cI cJ cZ : ClassId) (ad : Nat → Nat) (S : MS) (a0 : Int32) {r1 : Int32} {S1 : MS} (h : fr_clean S a0 = some (r1, S1)) : mCi l yX12_clean (Cond.code yX12_clean cX12_clean 6 (some .int) :: wsM) 8 163 D cI cJ cZ ad S [.int a0] (fun r S9 => r = r1 ∧ S9 = S1) := by
  intro sz
  refine Met.ofW (cc := cX12_clean) (maxL := 6) (ret := (some .int)) (by decide) rfl ?_
  intro p e s m args below meth c s₁ B hml hv
  obtain ⟨rfl, hsz, hP, hK, hD0, hR⟩ := hv
  have hx := B.exec
  have hb := B.bytes
  have hr := B.returns
  have hts := atoms_spec (ws := (Cond.code yX12_clean cX12_clean 6 (some .int) :: wsM)) B.pre
  have hown : s.vm.findClass RX12 = some m.cls := findClass_of_methodNamed B.named
  have hlocks := B.notSynchronized
  subst hsz
  have hD := hD0.self (sz := s.heap.size)
  generalize hAe : va_A (MW cI cJ cZ ad S) s.heap.size = A at hD ⊢
  have hA : ∀ q : Nat, s.heap.size ≤ q → A q := fun q h => by rw [← hAe]; exact Or.inr h
  have G : mG D cI cJ cZ ad A s.heap s.heap [] S := ⟨hP, hD, va_S.rf⟩
  have E : mE p c cX12_clean s m ([.ref (ad 0), .int a0] : List Value).toArray (Cond.code yX12_clean cX12_clean 6 (some .int) :: wsM) D cI cJ cZ := ⟨hx, hb, hts, hown, hK, fun w h => .tail _ (iM_x h)⟩
  have hl := lv_entry ([.ref (ad 0), .int a0]) (n := 6) (Nat.le_of_ble_eq_true rfl)
  rw [lg_entry_eq]
  generalize (lg_sl ([.ref (ad 0), .int a0]) ++ List.replicate (6 - (lg_sl ([.ref (ad 0), .int a0])).length) Slot.unset).toArray = ls at hl ⊢
  have hl : lv_has ls 6 [(0, .ref (ad 0)), (1, .int a0)] := hl
  unfold fr_clean at h
  refine lv_aload_n hx hb dX12_clean_0 rfl (lv_at hl 0 rfl) ?_
  refine lv_aload_n hx hb dX12_clean_1 rfl (lv_at hl 0 rfl) ?_
  refine m_get E G 20 (v := .int (S.1 20)) (by decide) (.tail _ qM_193) rfl dX12_clean_2 rfl ?_
  refine lv_topi (fun v2 ev2 => ?_)
  have h := elet_at ev2 h
  clear ev2
  refine lv_if_eq (tgt := 15) hx hb dX12_clean_5 (by decide) (fun c3 => ?_) (fun c3 => ?_)
  · have h := oif_pos c3 h
    have hl := lv_sub hl [0, 1] rfl
    exact tr_clean_b15 E hA hR hml (fun H locs ls G => W.iret (v := r1) hx hb hr (fun t ht hW => ⟨⟨r1, S1, rfl, ⟨rfl, rfl⟩, ⟨by rw [ht]; exact G.1, va_K.moved hW.alike hK, G.2.1⟩⟩, G.2.2.F ht⟩) G.2.2.2.2 dX12_clean_45) (fun H locs ls G => W.iret (v := r1) hx hb hr (fun t ht hW => ⟨⟨r1, S1, rfl, ⟨rfl, rfl⟩, ⟨by rw [ht]; exact G.1, va_K.moved hW.alike hK, G.2.1⟩⟩, G.2.2.F ht⟩) G.2.2.2.2 dX12_clean_213) _ _ _ _ _ h G hl
  · have h := oif_neg c3 h
    refine lv_aload_n hx hb dX12_clean_8 rfl (lv_at hl 0 rfl) ?_
    obtain ⟨r7, S4, eS4, h⟩ := obind2_some h
    refine m_calli (As := []) (rest := [.ref (ad 0)]) E G hA hR hml (tr_weightOf l D cI cJ cZ ad S eS4) (cwV 0 hts (gmV qM_497 qM_498 qM_499 qM_35 qM_495) rfl rfl rfl (by decide +kernel) ⟨Nat.le_of_ble_eq_true rfl, Nat.le_of_ble_eq_true rfl⟩) rfl hl.1 rfl (lv_room (Nat.le_of_ble_eq_true rfl)) dX12_clean_9 ⟨Nat.zero_le _, Nat.zero_le _⟩ (fun q5 S6 H locs hq G => ?_)
    obtain ⟨hq1, hq2⟩ := hq
    rw [hq2] at G
    refine lv_to hq1 ?_
    clear hq1 hq2 eS4
    refine lv_if_ne (tgt := 19) hx hb dX12_clean_12 (by decide) (fun c8 => ?_) (fun c8 => ?_)
    · have h := oif_neg c8 h
      refine lv_iload_n hx hb dX12_clean_19 rfl (lv_at hl 1 rfl) ?_
      refine lv_iconst (v := 1) hx hb dX12_clean_20 (by decide) ?_
      refine lv_bipush (v := 100) hx hb dX12_clean_21 (by decide) ?_
      obtain ⟨r9, er9, h⟩ := obind_some h
      refine m_stat (As := [.int a0, .int 1, .int 100]) (rest := [.ref (ad 0)]) ⟨hx, hb, hml, hown, hts⟩ (tr_in l a0 1 100 er9) (cwS 3 hts (gmS qM_52 qM_53 qM_35 qM_27) rfl rfl rfl (by decide +kernel) ⟨Nat.le_of_ble_eq_true rfl, Nat.le_of_ble_eq_true rfl⟩) rfl hl.1 rfl (lv_room (Nat.le_of_ble_eq_true rfl)) dX12_clean_23 ⟨Nat.zero_le _, Nat.zero_le _⟩ (fun q10 hq => ?_)
      refine lv_to hq ?_
      clear hq er9
      refine lv_if_eq (tgt := 33) hx hb dX12_clean_26 (by decide) (fun c11 => ?_) (fun c11 => ?_)
      · have h := oif_pos c11 h
        refine lv_iconst (v := 2) hx hb dX12_clean_33 (by decide) ?_
        have hl := lv_sub hl [0, 1] rfl
        exact tr_clean_b34 E hA hR hml (fun H locs ls G => W.iret (v := r1) hx hb hr (fun t ht hW => ⟨⟨r1, S1, rfl, ⟨rfl, rfl⟩, ⟨by rw [ht]; exact G.1, va_K.moved hW.alike hK, G.2.1⟩⟩, G.2.2.F ht⟩) G.2.2.2.2 dX12_clean_45) (fun H locs ls G => W.iret (v := r1) hx hb hr (fun t ht hW => ⟨⟨r1, S1, rfl, ⟨rfl, rfl⟩, ⟨by rw [ht]; exact G.1, va_K.moved hW.alike hK, G.2.1⟩⟩, G.2.2.F ht⟩) G.2.2.2.2 dX12_clean_213) _ _ _ _ _ _ h G hl
      · have h := oif_neg c11 h
        refine lv_iconst (v := 0) hx hb dX12_clean_29 (by decide) ?_
        refine lv_goto (tgt := 34) hx hb dX12_clean_30 (by decide) ?_
        have hl := lv_sub hl [0, 1] rfl
        exact tr_clean_b34 E hA hR hml (fun H locs ls G => W.iret (v := r1) hx hb hr (fun t ht hW => ⟨⟨r1, S1, rfl, ⟨rfl, rfl⟩, ⟨by rw [ht]; exact G.1, va_K.moved hW.alike hK, G.2.1⟩⟩, G.2.2.F ht⟩) G.2.2.2.2 dX12_clean_45) (fun H locs ls G => W.iret (v := r1) hx hb hr (fun t ht hW => ⟨⟨r1, S1, rfl, ⟨rfl, rfl⟩, ⟨by rw [ht]; exact G.1, va_K.moved hW.alike hK, G.2.1⟩⟩, G.2.2.F ht⟩) G.2.2.2.2 dX12_clean_213) _ _ _ _ _ _ h G hl
    · have h := oif_pos c8 h
      have hl := lv_sub hl [0, 1] rfl
      exact tr_clean_b15 E hA hR hml (fun H locs ls G => W.iret (v := r1) hx hb hr (fun t ht hW => ⟨⟨r1, S1, rfl, ⟨rfl, rfl⟩, ⟨by rw [ht]; exact G.1, va_K.moved hW.alike hK, G.2.1⟩⟩, G.2.2.F ht⟩) G.2.2.2.2 dX12_clean_45) (fun H locs ls G => W.iret (v := r1) hx hb hr (fun t ht hW => ⟨⟨r1, S1, rfl, ⟨rfl, rfl⟩, ⟨by rw [ht]; exact G.1, va_K.moved hW.alike hK, G.2.1⟩⟩, G.2.2.F ht⟩) G.2.2.2.2 dX12_clean_213) _ _ _ _ _ h G hl
def fr_cleaned_b18  (S : MS) (s0 : Int32) : Option (Int32 × MS) := some (s0, S)
set_option maxHeartbeats 4000000 in
set_option maxRecDepth 100000 in
theorem tr_cleaned_b18 {p : Program} {l : Launch} {e : Env} {s : State} {m : MethodId} {args : Array Value} {below : List Frame} {meth : Method} {c : Code} {Q : State → Prop} {D : va_G} {A : Nat → Prop} {H0 : Heap} {cI cJ cZ : ClassId} {ad : Nat → Nat} {r1 : Int32} {S1 : MS} (E : mE p c cX12_cleaned s m args (Cond.code yX12_cleaned cX12_cleaned 1 (some .int) :: wsM) D cI cJ cZ) (hA : ∀ q : Nat, H0.size ≤ q → A q) (hR : sR s) (hml : c.maxLocals = 1) (kr18 : ∀ (H : Heap) (locs : List Loc) (ls : Array Slot), mG D cI cJ cZ ad A H0 H locs S1 → W p l e { frames := 2, cells := 0, slots := 0, locals := 21 } s m args below meth c H locs 0 0 Q (F0 m 18 ls [.int r1])) : ∀ (S : MS) (H : Heap) (locs : List Loc) (ls : Array Slot) (s0 : Int32), fr_cleaned_b18 S s0 = some (r1, S1) → mG D cI cJ cZ ad A H0 H locs S → lv_has ls 1 [] → W p l e { frames := 2, cells := 0, slots := 0, locals := 21 } s m args below meth c H locs 0 0 Q (F0 m 18 ls [.int s0]) := by
  have hx := E.1
  have hb := E.2.1
  have hts := E.2.2.1
  have hown := E.2.2.2.1
  have hK := E.2.2.2.2.1
  intro S H locs ls s0 h G hl
  unfold fr_cleaned_b18 at h
  rw [(osome2 h).2] at G
  refine lv_to (osome2 h).1 ?_
  exact kr18 _ _ _ G
def fr_cleaned (S : MS)  : Option (Int32 × MS) := obind2 (fr_mayAsk S 1) fun r5 S2 => if r5 = 0 then (fr_cleaned_b18 S2 0) else (elet (S2.2.1 12 0) fun v7 => fr_cleaned_b18 S2 v7)
set_option maxHeartbeats 4000000 in
set_option maxRecDepth 100000 in
theorem tr_cleaned (l : Launch) (D : va_G) (cI cJ cZ : ClassId) (ad : Nat → Nat) (S : MS)  {r1 : Int32} {S1 : MS} (h : fr_cleaned S = some (r1, S1)) : mCi l yX12_cleaned (Cond.code yX12_cleaned cX12_cleaned 1 (some .int) :: wsM) 2 21 D cI cJ cZ ad S [] (fun r S9 => r = r1 ∧ S9 = S1) := by
  intro sz
  refine Met.ofW (cc := cX12_cleaned) (maxL := 1) (ret := (some .int)) (by decide) rfl ?_
  intro p e s m args below meth c s₁ B hml hv
  obtain ⟨rfl, hsz, hP, hK, hD0, hR⟩ := hv
  have hx := B.exec
  have hb := B.bytes
  have hr := B.returns
  have hts := atoms_spec (ws := (Cond.code yX12_cleaned cX12_cleaned 1 (some .int) :: wsM)) B.pre
  have hown : s.vm.findClass RX12 = some m.cls := findClass_of_methodNamed B.named
  have hlocks := B.notSynchronized
  subst hsz
  have hD := hD0.self (sz := s.heap.size)
  generalize hAe : va_A (MW cI cJ cZ ad S) s.heap.size = A at hD ⊢
  have hA : ∀ q : Nat, s.heap.size ≤ q → A q := fun q h => by rw [← hAe]; exact Or.inr h
  have G : mG D cI cJ cZ ad A s.heap s.heap [] S := ⟨hP, hD, va_S.rf⟩
  have E : mE p c cX12_cleaned s m ([.ref (ad 0)] : List Value).toArray (Cond.code yX12_cleaned cX12_cleaned 1 (some .int) :: wsM) D cI cJ cZ := ⟨hx, hb, hts, hown, hK, fun w h => .tail _ (iM_x h)⟩
  have hl := lv_entry ([.ref (ad 0)]) (n := 1) (Nat.le_of_ble_eq_true rfl)
  rw [lg_entry_eq]
  generalize (lg_sl ([.ref (ad 0)]) ++ List.replicate (1 - (lg_sl ([.ref (ad 0)])).length) Slot.unset).toArray = ls at hl ⊢
  have hl : lv_has ls 1 [(0, .ref (ad 0))] := hl
  unfold fr_cleaned at h
  refine lv_aload_n hx hb dX12_cleaned_0 rfl (lv_at hl 0 rfl) ?_
  refine lv_iconst (v := 1) hx hb dX12_cleaned_1 (by decide) ?_
  obtain ⟨r5, S2, eS2, h⟩ := obind2_some h
  refine m_calli (As := [.int 1]) (rest := []) E G hA hR hml (tr_mayAsk l D cI cJ cZ ad S 1 eS2) (cwV 1 hts (gmV qM_319 qM_320 qM_321 qM_35 qM_304) rfl rfl rfl (by decide +kernel) ⟨Nat.le_of_ble_eq_true rfl, Nat.le_of_ble_eq_true rfl⟩) rfl hl.1 rfl (lv_room (Nat.le_of_ble_eq_true rfl)) dX12_cleaned_2 ⟨Nat.zero_le _, Nat.zero_le _⟩ (fun q3 S4 H locs hq G => ?_)
  obtain ⟨hq1, hq2⟩ := hq
  rw [hq2] at G
  refine lv_to hq1 ?_
  clear hq1 hq2 eS2
  refine lv_if_eq (tgt := 17) hx hb dX12_cleaned_5 (by decide) (fun c6 => ?_) (fun c6 => ?_)
  · have h := oif_pos c6 h
    refine lv_iconst (v := 0) hx hb dX12_cleaned_17 (by decide) ?_
    have hl := lv_sub hl [] rfl
    exact tr_cleaned_b18 E hA hR hml (fun H locs ls G => W.iret (v := r1) hx hb hr (fun t ht hW => ⟨⟨r1, S1, rfl, ⟨rfl, rfl⟩, ⟨by rw [ht]; exact G.1, va_K.moved hW.alike hK, G.2.1⟩⟩, G.2.2.F ht⟩) G.2.2.2.2 dX12_cleaned_18) _ _ _ _ _ h G hl
  · have h := oif_neg c6 h
    refine lv_aload_n hx hb dX12_cleaned_8 rfl (lv_at hl 0 rfl) ?_
    refine m_get E G 12 (v := .ref (ad 12)) (by decide) (.tail _ qM_9) rfl dX12_cleaned_9 rfl ?_
    refine lv_iconst (v := 0) hx hb dX12_cleaned_12 (by decide) ?_
    refine m_iald E G 12 4 (n := 2455) (k := 0) rfl rfl (by decide) (by decide) dX12_cleaned_13 ?_
    refine lv_topi (fun v7 ev7 => ?_)
    have h := elet_at ev7 h
    clear ev7
    refine lv_goto (tgt := 18) hx hb dX12_cleaned_14 (by decide) ?_
    have hl := lv_sub hl [] rfl
    exact tr_cleaned_b18 E hA hR hml (fun H locs ls G => W.iret (v := r1) hx hb hr (fun t ht hW => ⟨⟨r1, S1, rfl, ⟨rfl, rfl⟩, ⟨by rw [ht]; exact G.1, va_K.moved hW.alike hK, G.2.1⟩⟩, G.2.2.F ht⟩) G.2.2.2.2 dX12_cleaned_18) _ _ _ _ _ h G hl
def fr_copy_15_12_b3  : Nat → MS → Int32 → Int32 → Int32 → Option (MS)
  | 0, _, _, _, _ => none
  | n + 1, S, l1, l3, l4 => if 2455 ≤ l4 then (some S) else (elet (l3 + l4) fun v3 => elet (l1 + l4) fun v4 => oif (inb v4 14730 = true) <| elet (S.2.1 15 v4.toNatClampNeg) fun v6 => oif (inb v3 2455 = true) <| elet (mf S 12 (upd (S.2.1 12) v3.toNatClampNeg v6)) fun S8 => elet (l4 + Int32.ofInt (1)) fun v9 => fr_copy_15_12_b3 n S8 l1 l3 v9)
set_option maxHeartbeats 4000000 in
set_option maxRecDepth 100000 in
theorem tr_copy_15_12_b3 {p : Program} {l : Launch} {e : Env} {s : State} {m : MethodId} {args : Array Value} {below : List Frame} {meth : Method} {c : Code} {Q : State → Prop} {D : va_G} {A : Nat → Prop} {H0 : Heap} {cI cJ cZ : ClassId} {ad : Nat → Nat} {S1 : MS} (E : mE p c cX12_copy s m args (Cond.code yX12_copy cX12_copy 5 none :: wsM) D cI cJ cZ) (hA : ∀ q : Nat, H0.size ≤ q → A q) (hR : sR s) (hml : c.maxLocals = 5) (kr29 : ∀ (H : Heap) (locs : List Loc) (ls : Array Slot), mG D cI cJ cZ ad A H0 H locs S1 → W p l e { frames := 1, cells := 0, slots := 0, locals := 0 } s m args below meth c H locs 0 0 Q (F0 m 29 ls [])) : ∀ n : Nat, ∀ (S : MS) (H : Heap) (locs : List Loc) (ls : Array Slot) (l1 : Int32) (l3 : Int32) (l4 : Int32), fr_copy_15_12_b3 n S l1 l3 l4 = some S1 → mG D cI cJ cZ ad A H0 H locs S → lv_has ls 5 [(0, .ref (ad 15)), (1, .int l1), (2, .ref (ad 12)), (3, .int l3), (4, .int l4)] → W p l e { frames := 1, cells := 0, slots := 0, locals := 0 } s m args below meth c H locs 0 0 Q (F0 m 3 ls []) := by
  have hx := E.1
  have hb := E.2.1
  have hts := E.2.2.1
  have hown := E.2.2.2.1
  have hK := E.2.2.2.2.1
  intro n
  induction n with
  | zero =>
    intro S H locs ls l1 l3 l4 h
    have h : (none : Option (MS)) = some S1 := h
    cases h
  | succ n ih =>
    intro S H locs ls l1 l3 l4 h G hl
    unfold fr_copy_15_12_b3 at h
    refine lv_iload hx hb dX12_copy_3 (lv_at hl 4 rfl) ?_
    refine lv_sipush (v := 2455) hx hb dX12_copy_5 (by decide) ?_
    refine lv_icmp_ge (tgt := 29) hx hb dX12_copy_8 (by decide) (fun c2 => ?_) (fun c2 => ?_)
    · have h := oif_pos c2 h
      rw [osome1 h] at G
      exact kr29 _ _ _ G
    · have h := oif_neg c2 h
      refine lv_aload_n hx hb dX12_copy_11 rfl (lv_at hl 2 rfl) ?_
      refine lv_iload_n hx hb dX12_copy_12 rfl (lv_at hl 3 rfl) ?_
      refine lv_iload hx hb dX12_copy_13 (lv_at hl 4 rfl) ?_
      refine lv_iadd hx hb dX12_copy_15 ?_
      refine lv_topi (fun v3 ev3 => ?_)
      have h := elet_at ev3 h
      clear ev3
      refine lv_aload_n hx hb dX12_copy_16 rfl (lv_at hl 0 rfl) ?_
      refine lv_iload_n hx hb dX12_copy_17 rfl (lv_at hl 1 rfl) ?_
      refine lv_iload hx hb dX12_copy_18 (lv_at hl 4 rfl) ?_
      refine lv_iadd hx hb dX12_copy_20 ?_
      refine lv_topi (fun v4 ev4 => ?_)
      have h := elet_at ev4 h
      clear ev4
      obtain ⟨g5, h⟩ := oif_some h
      refine m_iald E G 15 7 (n := 14730) (k := v4.toNatClampNeg) rfl (inb_k g5).1 (inb_k g5).2 (by decide) dX12_copy_21 ?_
      refine lv_topi (fun v6 ev6 => ?_)
      have h := elet_at ev6 h
      clear ev6
      obtain ⟨g7, h⟩ := oif_some h
      refine m_iast E G 12 4 (k := v3.toNatClampNeg) (v := v6) rfl (fun _ => rfl) (inb_k g7).1 (inb_k g7).2 (by decide) dX12_copy_22 (fun H locs G => ?_)
      obtain ⟨S8, eS8, h⟩ := elet_some h
      rw [← eS8] at G
      clear eS8
      obtain ⟨v9, ev9, h⟩ := elet_some h
      refine lv_iinc (v := v9) (lv' := [(4, .int v9), (0, .ref (ad 15)), (1, .int l1), (2, .ref (ad 12)), (3, .int l3)]) hx hb dX12_copy_23 hl (k := 4) rfl ev9.symm (by decide) rfl (fun ls hl => ?_)
      refine lv_goto (tgt := 3) hx hb dX12_copy_26 (by decide) ?_
      have hl := lv_sub hl [1, 2, 3, 4, 0] rfl
      exact ih _ _ _ _ _ _ _ h G hl
def fr_copy_15_12 (S : MS) (a1 : Int32) (a3 : Int32) : Option (MS) := fr_copy_15_12_b3 16384 S a1 a3 0
set_option maxHeartbeats 4000000 in
set_option maxRecDepth 100000 in
theorem tr_copy_15_12 (l : Launch) (D : va_G) (cI cJ cZ : ClassId) (ad : Nat → Nat) (S : MS) (a1 : Int32) (a3 : Int32) {S1 : MS} (h : fr_copy_15_12 S a1 a3 = some S1) : mCs l yX12_copy (Cond.code yX12_copy cX12_copy 5 none :: wsM) 1 0 D cI cJ cZ ad S [.ref (ad 15), .int a1, .ref (ad 12), .int a3] (fun S9 => S9 = S1) := by
  intro sz
  refine Met.ofW (cc := cX12_copy) (maxL := 5) (ret := none) (by decide) rfl ?_
  intro p e s m args below meth c s₁ B hml hv
  obtain ⟨rfl, hsz, hP, hK, hD0, hR⟩ := hv
  have hx := B.exec
  have hb := B.bytes
  have hr := B.returns
  have hts := atoms_spec (ws := (Cond.code yX12_copy cX12_copy 5 none :: wsM)) B.pre
  have hown : s.vm.findClass RX12 = some m.cls := findClass_of_methodNamed B.named
  have hlocks := B.notSynchronized
  subst hsz
  have hD := hD0.self (sz := s.heap.size)
  generalize hAe : va_A (MW cI cJ cZ ad S) s.heap.size = A at hD ⊢
  have hA : ∀ q : Nat, s.heap.size ≤ q → A q := fun q h => by rw [← hAe]; exact Or.inr h
  have G : mG D cI cJ cZ ad A s.heap s.heap [] S := ⟨hP, hD, va_S.rf⟩
  have E : mE p c cX12_copy s m ([.ref (ad 15), .int a1, .ref (ad 12), .int a3] : List Value).toArray (Cond.code yX12_copy cX12_copy 5 none :: wsM) D cI cJ cZ := ⟨hx, hb, hts, hown, hK, fun w h => .tail _ (iM_x h)⟩
  have hl := lv_entry ([.ref (ad 15), .int a1, .ref (ad 12), .int a3]) (n := 5) (Nat.le_of_ble_eq_true rfl)
  rw [lg_entry_eq]
  generalize (lg_sl ([.ref (ad 15), .int a1, .ref (ad 12), .int a3]) ++ List.replicate (5 - (lg_sl ([.ref (ad 15), .int a1, .ref (ad 12), .int a3])).length) Slot.unset).toArray = ls at hl ⊢
  have hl : lv_has ls 5 [(0, .ref (ad 15)), (1, .int a1), (2, .ref (ad 12)), (3, .int a3)] := hl
  unfold fr_copy_15_12 at h
  refine lv_iconst (v := 0) hx hb dX12_copy_0 (by decide) ?_
  refine lv_istore (lv' := [(4, .int 0), (0, .ref (ad 15)), (1, .int a1), (2, .ref (ad 12)), (3, .int a3)]) hx hb dX12_copy_1 hl (by decide) rfl (fun ls hl => ?_)
  have hl := lv_sub hl [1, 2, 3, 4, 0] rfl
  exact tr_copy_15_12_b3 E hA hR hml (fun H locs ls G => W.vret hx hb hr (fun t ht hW => ⟨⟨S1, rfl, rfl, ⟨by rw [ht]; exact G.1, va_K.moved hW.alike hK, G.2.1⟩⟩, G.2.2.F ht⟩) G.2.2.2.2 dX12_copy_29) _ _ _ _ _ _ _ _ h G hl
def fr_undo_b13  (S : MS) (s0 : Int32) : Option (Int32 × MS) := elet (mi S 0 s0) fun S2 => elet (S2.1 0) fun v3 => if v3 ≤ 0 then (elet (S2.1 19) fun v5 => elet (v5 - 1) fun v6 => elet (mi S2 19 v6) fun S7 => elet (S7.1 19) fun v8 => elet (2455 * v8) fun v9 => obind (fr_copy_15_12 S7 v9 0) fun S10 => elet (S10.1 19) fun v13 => some (v13, S10)) else (some (0, S2))
set_option maxHeartbeats 4000000 in
set_option maxRecDepth 100000 in
theorem tr_undo_b13 {p : Program} {l : Launch} {e : Env} {s : State} {m : MethodId} {args : Array Value} {below : List Frame} {meth : Method} {c : Code} {Q : State → Prop} {D : va_G} {A : Nat → Prop} {H0 : Heap} {cI cJ cZ : ClassId} {ad : Nat → Nat} {r1 : Int32} {S1 : MS} (E : mE p c cX12_undo s m args (Cond.code yX12_undo cX12_undo 1 (some .int) :: wsM) D cI cJ cZ) (hA : ∀ q : Nat, H0.size ≤ q → A q) (hR : sR s) (hml : c.maxLocals = 1) (kr24 : ∀ (H : Heap) (locs : List Loc) (ls : Array Slot), mG D cI cJ cZ ad A H0 H locs S1 → W p l e { frames := 2, cells := 0, slots := 0, locals := 24 } s m args below meth c H locs 0 0 Q (F0 m 24 ls [.int r1])) (kr59 : ∀ (H : Heap) (locs : List Loc) (ls : Array Slot), mG D cI cJ cZ ad A H0 H locs S1 → W p l e { frames := 2, cells := 0, slots := 0, locals := 24 } s m args below meth c H locs 0 0 Q (F0 m 59 ls [.int r1])) : ∀ (S : MS) (H : Heap) (locs : List Loc) (ls : Array Slot) (s0 : Int32), fr_undo_b13 S s0 = some (r1, S1) → mG D cI cJ cZ ad A H0 H locs S → lv_has ls 1 [(0, .ref (ad 0))] → W p l e { frames := 2, cells := 0, slots := 0, locals := 24 } s m args below meth c H locs 0 0 Q (F0 m 13 ls [.int s0, .ref (ad 0)]) := by
  have hx := E.1
  have hb := E.2.1
  have hts := E.2.2.1
  have hown := E.2.2.2.1
  have hK := E.2.2.2.2.1
  intro S H locs ls s0 h G hl
  unfold fr_undo_b13 at h
  refine m_put E G 0 (by decide) (.tail _ qM_26) (mw_i0 _ _ _ _ _ s0) dX12_undo_13 ⟨rfl, rfl, rfl⟩ rfl rfl (fun H locs G => ?_)
  obtain ⟨S2, eS2, h⟩ := elet_some h
  rw [← eS2] at G
  clear eS2
  refine lv_aload_n hx hb dX12_undo_16 rfl (lv_at hl 0 rfl) ?_
  refine m_get E G 0 (v := .int (S2.1 0)) (by decide) (.tail _ qM_26) rfl dX12_undo_17 rfl ?_
  refine lv_topi (fun v3 ev3 => ?_)
  have h := elet_at ev3 h
  clear ev3
  refine lv_if_le (tgt := 25) hx hb dX12_undo_20 (by decide) (fun c4 => ?_) (fun c4 => ?_)
  · have h := oif_pos c4 h
    refine lv_aload_n hx hb dX12_undo_25 rfl (lv_at hl 0 rfl) ?_
    refine lv_dup hx hb dX12_undo_26 rfl ?_
    refine m_get E G 19 (v := .int (S2.1 19)) (by decide) (.tail _ qM_194) rfl dX12_undo_27 rfl ?_
    refine lv_topi (fun v5 ev5 => ?_)
    have h := elet_at ev5 h
    clear ev5
    refine lv_iconst (v := 1) hx hb dX12_undo_30 (by decide) ?_
    refine lv_isub hx hb dX12_undo_31 ?_
    refine lv_topi (fun v6 ev6 => ?_)
    have h := elet_at ev6 h
    clear ev6
    refine m_put E G 19 (by decide) (.tail _ qM_194) (mw_i19 _ _ _ _ _ v6) dX12_undo_32 ⟨rfl, rfl, rfl⟩ rfl rfl (fun H locs G => ?_)
    obtain ⟨S7, eS7, h⟩ := elet_some h
    rw [← eS7] at G
    clear eS7
    refine lv_aload_n hx hb dX12_undo_35 rfl (lv_at hl 0 rfl) ?_
    refine m_get E G 15 (v := .ref (ad 15)) (by decide) (.tail _ qM_12) rfl dX12_undo_36 rfl ?_
    refine lv_sipush (v := 2455) hx hb dX12_undo_39 (by decide) ?_
    refine lv_aload_n hx hb dX12_undo_42 rfl (lv_at hl 0 rfl) ?_
    refine m_get E G 19 (v := .int (S7.1 19)) (by decide) (.tail _ qM_194) rfl dX12_undo_43 rfl ?_
    refine lv_topi (fun v8 ev8 => ?_)
    have h := elet_at ev8 h
    clear ev8
    refine lv_imul hx hb dX12_undo_46 ?_
    refine lv_topi (fun v9 ev9 => ?_)
    have h := elet_at ev9 h
    clear ev9
    refine lv_aload_n hx hb dX12_undo_47 rfl (lv_at hl 0 rfl) ?_
    refine m_get E G 12 (v := .ref (ad 12)) (by decide) (.tail _ qM_9) rfl dX12_undo_48 rfl ?_
    refine lv_iconst (v := 0) hx hb dX12_undo_51 (by decide) ?_
    obtain ⟨S10, eS10, h⟩ := obind_some h
    refine m_calls (As := [.ref (ad 15), .int v9, .ref (ad 12), .int 0]) (rest := []) E G hA hR hml (tr_copy_15_12 l D cI cJ cZ ad S7 v9 0 eS10) (cwS 4 hts (gmS qM_201 qM_202 qM_35 qM_203) rfl rfl rfl (by decide +kernel) ⟨Nat.le_of_ble_eq_true rfl, Nat.le_of_ble_eq_true rfl⟩) rfl hl.1 rfl (lv_room (Nat.le_of_ble_eq_true rfl)) dX12_undo_52 ⟨Nat.zero_le _, Nat.zero_le _⟩ (fun S12 H locs hq G => ?_)
    rw [hq] at G
    clear hq eS10
    refine lv_aload_n hx hb dX12_undo_55 rfl (lv_at hl 0 rfl) ?_
    refine m_get E G 19 (v := .int (S10.1 19)) (by decide) (.tail _ qM_194) rfl dX12_undo_56 rfl ?_
    refine lv_topi (fun v13 ev13 => ?_)
    have h := elet_at ev13 h
    clear ev13
    rw [(osome2 h).2] at G
    refine lv_to (osome2 h).1 ?_
    exact kr59 _ _ _ G
  · have h := oif_neg c4 h
    refine lv_iconst (v := 0) hx hb dX12_undo_23 (by decide) ?_
    rw [(osome2 h).2] at G
    refine lv_to (osome2 h).1 ?_
    exact kr24 _ _ _ G
def fr_undo (S : MS)  : Option (Int32 × MS) := elet (S.1 19) fun v2 => if v2 = 0 then (fr_undo_b13 S 1) else (fr_undo_b13 S 0)
set_option maxHeartbeats 4000000 in
set_option maxRecDepth 100000 in
theorem tr_undo (l : Launch) (D : va_G) (cI cJ cZ : ClassId) (ad : Nat → Nat) (S : MS)  {r1 : Int32} {S1 : MS} (h : fr_undo S = some (r1, S1)) : mCi l yX12_undo (Cond.code yX12_undo cX12_undo 1 (some .int) :: wsM) 2 24 D cI cJ cZ ad S [] (fun r S9 => r = r1 ∧ S9 = S1) := by
  intro sz
  refine Met.ofW (cc := cX12_undo) (maxL := 1) (ret := (some .int)) (by decide) rfl ?_
  intro p e s m args below meth c s₁ B hml hv
  obtain ⟨rfl, hsz, hP, hK, hD0, hR⟩ := hv
  have hx := B.exec
  have hb := B.bytes
  have hr := B.returns
  have hts := atoms_spec (ws := (Cond.code yX12_undo cX12_undo 1 (some .int) :: wsM)) B.pre
  have hown : s.vm.findClass RX12 = some m.cls := findClass_of_methodNamed B.named
  have hlocks := B.notSynchronized
  subst hsz
  have hD := hD0.self (sz := s.heap.size)
  generalize hAe : va_A (MW cI cJ cZ ad S) s.heap.size = A at hD ⊢
  have hA : ∀ q : Nat, s.heap.size ≤ q → A q := fun q h => by rw [← hAe]; exact Or.inr h
  have G : mG D cI cJ cZ ad A s.heap s.heap [] S := ⟨hP, hD, va_S.rf⟩
  have E : mE p c cX12_undo s m ([.ref (ad 0)] : List Value).toArray (Cond.code yX12_undo cX12_undo 1 (some .int) :: wsM) D cI cJ cZ := ⟨hx, hb, hts, hown, hK, fun w h => .tail _ (iM_x h)⟩
  have hl := lv_entry ([.ref (ad 0)]) (n := 1) (Nat.le_of_ble_eq_true rfl)
  rw [lg_entry_eq]
  generalize (lg_sl ([.ref (ad 0)]) ++ List.replicate (1 - (lg_sl ([.ref (ad 0)])).length) Slot.unset).toArray = ls at hl ⊢
  have hl : lv_has ls 1 [(0, .ref (ad 0))] := hl
  unfold fr_undo at h
  refine lv_aload_n hx hb dX12_undo_0 rfl (lv_at hl 0 rfl) ?_
  refine lv_aload_n hx hb dX12_undo_1 rfl (lv_at hl 0 rfl) ?_
  refine m_get E G 19 (v := .int (S.1 19)) (by decide) (.tail _ qM_194) rfl dX12_undo_2 rfl ?_
  refine lv_topi (fun v2 ev2 => ?_)
  have h := elet_at ev2 h
  clear ev2
  refine lv_if_ne (tgt := 12) hx hb dX12_undo_5 (by decide) (fun c3 => ?_) (fun c3 => ?_)
  · have h := oif_neg c3 h
    refine lv_iconst (v := 0) hx hb dX12_undo_12 (by decide) ?_
    have hl := lv_sub hl [0] rfl
    exact tr_undo_b13 E hA hR hml (fun H locs ls G => W.iret (v := r1) hx hb hr (fun t ht hW => ⟨⟨r1, S1, rfl, ⟨rfl, rfl⟩, ⟨by rw [ht]; exact G.1, va_K.moved hW.alike hK, G.2.1⟩⟩, G.2.2.F ht⟩) G.2.2.2.2 dX12_undo_24) (fun H locs ls G => W.iret (v := r1) hx hb hr (fun t ht hW => ⟨⟨r1, S1, rfl, ⟨rfl, rfl⟩, ⟨by rw [ht]; exact G.1, va_K.moved hW.alike hK, G.2.1⟩⟩, G.2.2.F ht⟩) G.2.2.2.2 dX12_undo_59) _ _ _ _ _ h G hl
  · have h := oif_pos c3 h
    refine lv_iconst (v := 1) hx hb dX12_undo_8 (by decide) ?_
    refine lv_goto (tgt := 13) hx hb dX12_undo_9 (by decide) ?_
    have hl := lv_sub hl [0] rfl
    exact tr_undo_b13 E hA hR hml (fun H locs ls G => W.iret (v := r1) hx hb hr (fun t ht hW => ⟨⟨r1, S1, rfl, ⟨rfl, rfl⟩, ⟨by rw [ht]; exact G.1, va_K.moved hW.alike hK, G.2.1⟩⟩, G.2.2.F ht⟩) G.2.2.2.2 dX12_undo_24) (fun H locs ls G => W.iret (v := r1) hx hb hr (fun t ht hW => ⟨⟨r1, S1, rfl, ⟨rfl, rfl⟩, ⟨by rw [ht]; exact G.1, va_K.moved hW.alike hK, G.2.1⟩⟩, G.2.2.F ht⟩) G.2.2.2.2 dX12_undo_59) _ _ _ _ _ h G hl
def fr_undoable (S : MS)  : Option (Int32 × MS) := elet (mi S 0 0) fun S2 => elet (S2.1 19) fun v3 => some (v3, S2)
set_option maxHeartbeats 4000000 in
set_option maxRecDepth 100000 in
theorem tr_undoable (l : Launch) (D : va_G) (cI cJ cZ : ClassId) (ad : Nat → Nat) (S : MS)  {r1 : Int32} {S1 : MS} (h : fr_undoable S = some (r1, S1)) : mCi l yX12_undoable (Cond.code yX12_undoable cX12_undoable 1 (some .int) :: wsM) 1 0 D cI cJ cZ ad S [] (fun r S9 => r = r1 ∧ S9 = S1) := by
  intro sz
  refine Met.ofW (cc := cX12_undoable) (maxL := 1) (ret := (some .int)) (by decide) rfl ?_
  intro p e s m args below meth c s₁ B hml hv
  obtain ⟨rfl, hsz, hP, hK, hD0, hR⟩ := hv
  have hx := B.exec
  have hb := B.bytes
  have hr := B.returns
  have hts := atoms_spec (ws := (Cond.code yX12_undoable cX12_undoable 1 (some .int) :: wsM)) B.pre
  have hown : s.vm.findClass RX12 = some m.cls := findClass_of_methodNamed B.named
  have hlocks := B.notSynchronized
  subst hsz
  have hD := hD0.self (sz := s.heap.size)
  generalize hAe : va_A (MW cI cJ cZ ad S) s.heap.size = A at hD ⊢
  have hA : ∀ q : Nat, s.heap.size ≤ q → A q := fun q h => by rw [← hAe]; exact Or.inr h
  have G : mG D cI cJ cZ ad A s.heap s.heap [] S := ⟨hP, hD, va_S.rf⟩
  have E : mE p c cX12_undoable s m ([.ref (ad 0)] : List Value).toArray (Cond.code yX12_undoable cX12_undoable 1 (some .int) :: wsM) D cI cJ cZ := ⟨hx, hb, hts, hown, hK, fun w h => .tail _ (iM_x h)⟩
  have hl := lv_entry ([.ref (ad 0)]) (n := 1) (Nat.le_of_ble_eq_true rfl)
  rw [lg_entry_eq]
  generalize (lg_sl ([.ref (ad 0)]) ++ List.replicate (1 - (lg_sl ([.ref (ad 0)])).length) Slot.unset).toArray = ls at hl ⊢
  have hl : lv_has ls 1 [(0, .ref (ad 0))] := hl
  unfold fr_undoable at h
  refine lv_aload_n hx hb dX12_undoable_0 rfl (lv_at hl 0 rfl) ?_
  refine lv_iconst (v := 0) hx hb dX12_undoable_1 (by decide) ?_
  refine m_put E G 0 (by decide) (.tail _ qM_26) (mw_i0 _ _ _ _ _ 0) dX12_undoable_2 ⟨rfl, rfl, rfl⟩ rfl rfl (fun H locs G => ?_)
  obtain ⟨S2, eS2, h⟩ := elet_some h
  rw [← eS2] at G
  clear eS2
  refine lv_aload_n hx hb dX12_undoable_5 rfl (lv_at hl 0 rfl) ?_
  refine m_get E G 19 (v := .int (S2.1 19)) (by decide) (.tail _ qM_194) rfl dX12_undoable_6 rfl ?_
  refine lv_topi (fun v3 ev3 => ?_)
  have h := elet_at ev3 h
  clear ev3
  exact W.iret (v := v3) hx hb hr (fun t ht hW => ⟨⟨v3, S2, rfl, osome2 h, ⟨by rw [ht]; exact G.1, va_K.moved hW.alike hK, G.2.1⟩⟩, G.2.2.F ht⟩) G.2.2.2.2 dX12_undoable_9
def fr_copy_12_16_b3  : Nat → MS → Int32 → Int32 → Int32 → Option (MS)
  | 0, _, _, _, _ => none
  | n + 1, S, l1, l3, l4 => if 2455 ≤ l4 then (some S) else (elet (l3 + l4) fun v3 => elet (l1 + l4) fun v4 => oif (inb v4 2455 = true) <| elet (S.2.1 12 v4.toNatClampNeg) fun v6 => oif (inb v3 4910 = true) <| elet (mf S 16 (upd (S.2.1 16) v3.toNatClampNeg v6)) fun S8 => elet (l4 + Int32.ofInt (1)) fun v9 => fr_copy_12_16_b3 n S8 l1 l3 v9)
set_option maxHeartbeats 4000000 in
set_option maxRecDepth 100000 in
theorem tr_copy_12_16_b3 {p : Program} {l : Launch} {e : Env} {s : State} {m : MethodId} {args : Array Value} {below : List Frame} {meth : Method} {c : Code} {Q : State → Prop} {D : va_G} {A : Nat → Prop} {H0 : Heap} {cI cJ cZ : ClassId} {ad : Nat → Nat} {S1 : MS} (E : mE p c cX12_copy s m args (Cond.code yX12_copy cX12_copy 5 none :: wsM) D cI cJ cZ) (hA : ∀ q : Nat, H0.size ≤ q → A q) (hR : sR s) (hml : c.maxLocals = 5) (kr29 : ∀ (H : Heap) (locs : List Loc) (ls : Array Slot), mG D cI cJ cZ ad A H0 H locs S1 → W p l e { frames := 1, cells := 0, slots := 0, locals := 0 } s m args below meth c H locs 0 0 Q (F0 m 29 ls [])) : ∀ n : Nat, ∀ (S : MS) (H : Heap) (locs : List Loc) (ls : Array Slot) (l1 : Int32) (l3 : Int32) (l4 : Int32), fr_copy_12_16_b3 n S l1 l3 l4 = some S1 → mG D cI cJ cZ ad A H0 H locs S → lv_has ls 5 [(0, .ref (ad 12)), (1, .int l1), (2, .ref (ad 16)), (3, .int l3), (4, .int l4)] → W p l e { frames := 1, cells := 0, slots := 0, locals := 0 } s m args below meth c H locs 0 0 Q (F0 m 3 ls []) := by
  have hx := E.1
  have hb := E.2.1
  have hts := E.2.2.1
  have hown := E.2.2.2.1
  have hK := E.2.2.2.2.1
  intro n
  induction n with
  | zero =>
    intro S H locs ls l1 l3 l4 h
    have h : (none : Option (MS)) = some S1 := h
    cases h
  | succ n ih =>
    intro S H locs ls l1 l3 l4 h G hl
    unfold fr_copy_12_16_b3 at h
    refine lv_iload hx hb dX12_copy_3 (lv_at hl 4 rfl) ?_
    refine lv_sipush (v := 2455) hx hb dX12_copy_5 (by decide) ?_
    refine lv_icmp_ge (tgt := 29) hx hb dX12_copy_8 (by decide) (fun c2 => ?_) (fun c2 => ?_)
    · have h := oif_pos c2 h
      rw [osome1 h] at G
      exact kr29 _ _ _ G
    · have h := oif_neg c2 h
      refine lv_aload_n hx hb dX12_copy_11 rfl (lv_at hl 2 rfl) ?_
      refine lv_iload_n hx hb dX12_copy_12 rfl (lv_at hl 3 rfl) ?_
      refine lv_iload hx hb dX12_copy_13 (lv_at hl 4 rfl) ?_
      refine lv_iadd hx hb dX12_copy_15 ?_
      refine lv_topi (fun v3 ev3 => ?_)
      have h := elet_at ev3 h
      clear ev3
      refine lv_aload_n hx hb dX12_copy_16 rfl (lv_at hl 0 rfl) ?_
      refine lv_iload_n hx hb dX12_copy_17 rfl (lv_at hl 1 rfl) ?_
      refine lv_iload hx hb dX12_copy_18 (lv_at hl 4 rfl) ?_
      refine lv_iadd hx hb dX12_copy_20 ?_
      refine lv_topi (fun v4 ev4 => ?_)
      have h := elet_at ev4 h
      clear ev4
      obtain ⟨g5, h⟩ := oif_some h
      refine m_iald E G 12 4 (n := 2455) (k := v4.toNatClampNeg) rfl (inb_k g5).1 (inb_k g5).2 (by decide) dX12_copy_21 ?_
      refine lv_topi (fun v6 ev6 => ?_)
      have h := elet_at ev6 h
      clear ev6
      obtain ⟨g7, h⟩ := oif_some h
      refine m_iast E G 16 8 (k := v3.toNatClampNeg) (v := v6) rfl (fun _ => rfl) (inb_k g7).1 (inb_k g7).2 (by decide) dX12_copy_22 (fun H locs G => ?_)
      obtain ⟨S8, eS8, h⟩ := elet_some h
      rw [← eS8] at G
      clear eS8
      obtain ⟨v9, ev9, h⟩ := elet_some h
      refine lv_iinc (v := v9) (lv' := [(4, .int v9), (0, .ref (ad 12)), (1, .int l1), (2, .ref (ad 16)), (3, .int l3)]) hx hb dX12_copy_23 hl (k := 4) rfl ev9.symm (by decide) rfl (fun ls hl => ?_)
      refine lv_goto (tgt := 3) hx hb dX12_copy_26 (by decide) ?_
      have hl := lv_sub hl [1, 2, 3, 4, 0] rfl
      exact ih _ _ _ _ _ _ _ h G hl
def fr_copy_12_16 (S : MS) (a1 : Int32) (a3 : Int32) : Option (MS) := fr_copy_12_16_b3 16384 S a1 a3 0
set_option maxHeartbeats 4000000 in
set_option maxRecDepth 100000 in
theorem tr_copy_12_16 (l : Launch) (D : va_G) (cI cJ cZ : ClassId) (ad : Nat → Nat) (S : MS) (a1 : Int32) (a3 : Int32) {S1 : MS} (h : fr_copy_12_16 S a1 a3 = some S1) : mCs l yX12_copy (Cond.code yX12_copy cX12_copy 5 none :: wsM) 1 0 D cI cJ cZ ad S [.ref (ad 12), .int a1, .ref (ad 16), .int a3] (fun S9 => S9 = S1) := by
  intro sz
  refine Met.ofW (cc := cX12_copy) (maxL := 5) (ret := none) (by decide) rfl ?_
  intro p e s m args below meth c s₁ B hml hv
  obtain ⟨rfl, hsz, hP, hK, hD0, hR⟩ := hv
  have hx := B.exec
  have hb := B.bytes
  have hr := B.returns
  have hts := atoms_spec (ws := (Cond.code yX12_copy cX12_copy 5 none :: wsM)) B.pre
  have hown : s.vm.findClass RX12 = some m.cls := findClass_of_methodNamed B.named
  have hlocks := B.notSynchronized
  subst hsz
  have hD := hD0.self (sz := s.heap.size)
  generalize hAe : va_A (MW cI cJ cZ ad S) s.heap.size = A at hD ⊢
  have hA : ∀ q : Nat, s.heap.size ≤ q → A q := fun q h => by rw [← hAe]; exact Or.inr h
  have G : mG D cI cJ cZ ad A s.heap s.heap [] S := ⟨hP, hD, va_S.rf⟩
  have E : mE p c cX12_copy s m ([.ref (ad 12), .int a1, .ref (ad 16), .int a3] : List Value).toArray (Cond.code yX12_copy cX12_copy 5 none :: wsM) D cI cJ cZ := ⟨hx, hb, hts, hown, hK, fun w h => .tail _ (iM_x h)⟩
  have hl := lv_entry ([.ref (ad 12), .int a1, .ref (ad 16), .int a3]) (n := 5) (Nat.le_of_ble_eq_true rfl)
  rw [lg_entry_eq]
  generalize (lg_sl ([.ref (ad 12), .int a1, .ref (ad 16), .int a3]) ++ List.replicate (5 - (lg_sl ([.ref (ad 12), .int a1, .ref (ad 16), .int a3])).length) Slot.unset).toArray = ls at hl ⊢
  have hl : lv_has ls 5 [(0, .ref (ad 12)), (1, .int a1), (2, .ref (ad 16)), (3, .int a3)] := hl
  unfold fr_copy_12_16 at h
  refine lv_iconst (v := 0) hx hb dX12_copy_0 (by decide) ?_
  refine lv_istore (lv' := [(4, .int 0), (0, .ref (ad 12)), (1, .int a1), (2, .ref (ad 16)), (3, .int a3)]) hx hb dX12_copy_1 hl (by decide) rfl (fun ls hl => ?_)
  have hl := lv_sub hl [1, 2, 3, 4, 0] rfl
  exact tr_copy_12_16_b3 E hA hR hml (fun H locs ls G => W.vret hx hb hr (fun t ht hW => ⟨⟨S1, rfl, rfl, ⟨by rw [ht]; exact G.1, va_K.moved hW.alike hK, G.2.1⟩⟩, G.2.2.F ht⟩) G.2.2.2.2 dX12_copy_29) _ _ _ _ _ _ _ _ h G hl
def fr_save (S : MS) (a0 : Int32) : Option (Int32 × MS) := obind (fr_in a0 0 1) fun r2 => obind2 (fr_mayAsk S r2) fun r7 S4 => if r7 = 0 then (some (0, S4)) else (elet (2455 * a0) fun v9 => obind (fr_copy_12_16 S4 0 v9) fun S10 => oif (inb a0 2 = true) <| elet (mf S10 18 (upd (S10.2.1 18) a0.toNatClampNeg 1)) fun S14 => obind2 (fr_bestIn_12 S14) fun r18 S15 => some (r18, S15))
set_option maxHeartbeats 4000000 in
set_option maxRecDepth 100000 in
theorem tr_save (l : Launch) (D : va_G) (cI cJ cZ : ClassId) (ad : Nat → Nat) (S : MS) (a0 : Int32) {r1 : Int32} {S1 : MS} (h : fr_save S a0 = some (r1, S1)) : mCi l yX12_save (Cond.code yX12_save cX12_save 2 (some .int) :: wsM) 8 163 D cI cJ cZ ad S [.int a0] (fun r S9 => r = r1 ∧ S9 = S1) := by
  intro sz
  refine Met.ofW (cc := cX12_save) (maxL := 2) (ret := (some .int)) (by decide) rfl ?_
  intro p e s m args below meth c s₁ B hml hv
  obtain ⟨rfl, hsz, hP, hK, hD0, hR⟩ := hv
  have hx := B.exec
  have hb := B.bytes
  have hr := B.returns
  have hts := atoms_spec (ws := (Cond.code yX12_save cX12_save 2 (some .int) :: wsM)) B.pre
  have hown : s.vm.findClass RX12 = some m.cls := findClass_of_methodNamed B.named
  have hlocks := B.notSynchronized
  subst hsz
  have hD := hD0.self (sz := s.heap.size)
  generalize hAe : va_A (MW cI cJ cZ ad S) s.heap.size = A at hD ⊢
  have hA : ∀ q : Nat, s.heap.size ≤ q → A q := fun q h => by rw [← hAe]; exact Or.inr h
  have G : mG D cI cJ cZ ad A s.heap s.heap [] S := ⟨hP, hD, va_S.rf⟩
  have E : mE p c cX12_save s m ([.ref (ad 0), .int a0] : List Value).toArray (Cond.code yX12_save cX12_save 2 (some .int) :: wsM) D cI cJ cZ := ⟨hx, hb, hts, hown, hK, fun w h => .tail _ (iM_x h)⟩
  have hl := lv_entry ([.ref (ad 0), .int a0]) (n := 2) (Nat.le_of_ble_eq_true rfl)
  rw [lg_entry_eq]
  generalize (lg_sl ([.ref (ad 0), .int a0]) ++ List.replicate (2 - (lg_sl ([.ref (ad 0), .int a0])).length) Slot.unset).toArray = ls at hl ⊢
  have hl : lv_has ls 2 [(0, .ref (ad 0)), (1, .int a0)] := hl
  unfold fr_save at h
  refine lv_aload_n hx hb dX12_save_0 rfl (lv_at hl 0 rfl) ?_
  refine lv_iload_n hx hb dX12_save_1 rfl (lv_at hl 1 rfl) ?_
  refine lv_iconst (v := 0) hx hb dX12_save_2 (by decide) ?_
  refine lv_iconst (v := 1) hx hb dX12_save_3 (by decide) ?_
  obtain ⟨r2, er2, h⟩ := obind_some h
  refine m_stat (As := [.int a0, .int 0, .int 1]) (rest := [.ref (ad 0)]) ⟨hx, hb, hml, hown, hts⟩ (tr_in l a0 0 1 er2) (cwS 3 hts (gmS qM_52 qM_53 qM_35 qM_27) rfl rfl rfl (by decide +kernel) ⟨Nat.le_of_ble_eq_true rfl, Nat.le_of_ble_eq_true rfl⟩) rfl hl.1 rfl (lv_room (Nat.le_of_ble_eq_true rfl)) dX12_save_4 ⟨Nat.zero_le _, Nat.zero_le _⟩ (fun q3 hq => ?_)
  refine lv_to hq ?_
  clear hq er2
  obtain ⟨r7, S4, eS4, h⟩ := obind2_some h
  refine m_calli (As := [.int r2]) (rest := []) E G hA hR hml (tr_mayAsk l D cI cJ cZ ad S r2 eS4) (cwV 1 hts (gmV qM_319 qM_320 qM_321 qM_35 qM_304) rfl rfl rfl (by decide +kernel) ⟨Nat.le_of_ble_eq_true rfl, Nat.le_of_ble_eq_true rfl⟩) rfl hl.1 rfl (lv_room (Nat.le_of_ble_eq_true rfl)) dX12_save_7 ⟨Nat.zero_le _, Nat.zero_le _⟩ (fun q5 S6 H locs hq G => ?_)
  obtain ⟨hq1, hq2⟩ := hq
  rw [hq2] at G
  refine lv_to hq1 ?_
  clear hq1 hq2 eS4
  refine lv_if_ne (tgt := 15) hx hb dX12_save_10 (by decide) (fun c8 => ?_) (fun c8 => ?_)
  · have h := oif_neg c8 h
    refine lv_aload_n hx hb dX12_save_15 rfl (lv_at hl 0 rfl) ?_
    refine m_get E G 12 (v := .ref (ad 12)) (by decide) (.tail _ qM_9) rfl dX12_save_16 rfl ?_
    refine lv_iconst (v := 0) hx hb dX12_save_19 (by decide) ?_
    refine lv_aload_n hx hb dX12_save_20 rfl (lv_at hl 0 rfl) ?_
    refine m_get E G 16 (v := .ref (ad 16)) (by decide) (.tail _ qM_13) rfl dX12_save_21 rfl ?_
    refine lv_sipush (v := 2455) hx hb dX12_save_24 (by decide) ?_
    refine lv_iload_n hx hb dX12_save_27 rfl (lv_at hl 1 rfl) ?_
    refine lv_imul hx hb dX12_save_28 ?_
    refine lv_topi (fun v9 ev9 => ?_)
    have h := elet_at ev9 h
    clear ev9
    obtain ⟨S10, eS10, h⟩ := obind_some h
    refine m_calls (As := [.ref (ad 12), .int 0, .ref (ad 16), .int v9]) (rest := []) E G hA hR hml (tr_copy_12_16 l D cI cJ cZ ad S4 0 v9 eS10) (cwS 4 hts (gmS qM_201 qM_202 qM_35 qM_203) rfl rfl rfl (by decide +kernel) ⟨Nat.le_of_ble_eq_true rfl, Nat.le_of_ble_eq_true rfl⟩) rfl hl.1 rfl (lv_room (Nat.le_of_ble_eq_true rfl)) dX12_save_29 ⟨Nat.zero_le _, Nat.zero_le _⟩ (fun S12 H locs hq G => ?_)
    rw [hq] at G
    clear hq eS10
    refine lv_aload_n hx hb dX12_save_32 rfl (lv_at hl 0 rfl) ?_
    refine m_get E G 18 (v := .ref (ad 18)) (by decide) (.tail _ qM_16) rfl dX12_save_33 rfl ?_
    refine lv_iload_n hx hb dX12_save_36 rfl (lv_at hl 1 rfl) ?_
    refine lv_iconst (v := 1) hx hb dX12_save_37 (by decide) ?_
    obtain ⟨g13, h⟩ := oif_some h
    refine m_zast E G 18 10 (k := a0.toNatClampNeg) (v := 1) rfl (fun _ => rfl) (inb_k g13).1 (inb_k g13).2 (by decide) rfl dX12_save_38 (fun H locs G => ?_)
    obtain ⟨S14, eS14, h⟩ := elet_some h
    rw [← eS14] at G
    clear eS14
    refine lv_aload_n hx hb dX12_save_39 rfl (lv_at hl 0 rfl) ?_
    refine lv_aload_n hx hb dX12_save_40 rfl (lv_at hl 0 rfl) ?_
    refine m_get E G 12 (v := .ref (ad 12)) (by decide) (.tail _ qM_9) rfl dX12_save_41 rfl ?_
    obtain ⟨r18, S15, eS15, h⟩ := obind2_some h
    refine m_calli (As := [.ref (ad 12)]) (rest := []) E G hA hR hml (tr_bestIn_12 l D cI cJ cZ ad S14 eS15) (cwV 1 hts (gmV qM_360 qM_361 qM_362 qM_35 qM_300) rfl rfl rfl (by decide +kernel) ⟨Nat.le_of_ble_eq_true rfl, Nat.le_of_ble_eq_true rfl⟩) rfl hl.1 rfl (lv_room (Nat.le_of_ble_eq_true rfl)) dX12_save_44 ⟨Nat.zero_le _, Nat.zero_le _⟩ (fun q16 S17 H locs hq G => ?_)
    obtain ⟨hq1, hq2⟩ := hq
    rw [hq2] at G
    refine lv_to hq1 ?_
    clear hq1 hq2 eS15
    exact W.iret (v := r18) hx hb hr (fun t ht hW => ⟨⟨r18, S15, rfl, osome2 h, ⟨by rw [ht]; exact G.1, va_K.moved hW.alike hK, G.2.1⟩⟩, G.2.2.F ht⟩) G.2.2.2.2 dX12_save_47
  · have h := oif_pos c8 h
    refine lv_iconst (v := 0) hx hb dX12_save_13 (by decide) ?_
    exact W.iret (v := 0) hx hb hr (fun t ht hW => ⟨⟨0, S4, rfl, osome2 h, ⟨by rw [ht]; exact G.1, va_K.moved hW.alike hK, G.2.1⟩⟩, G.2.2.F ht⟩) G.2.2.2.2 dX12_save_14
def fr_copy_16_12_b3  : Nat → MS → Int32 → Int32 → Int32 → Option (MS)
  | 0, _, _, _, _ => none
  | n + 1, S, l1, l3, l4 => if 2455 ≤ l4 then (some S) else (elet (l3 + l4) fun v3 => elet (l1 + l4) fun v4 => oif (inb v4 4910 = true) <| elet (S.2.1 16 v4.toNatClampNeg) fun v6 => oif (inb v3 2455 = true) <| elet (mf S 12 (upd (S.2.1 12) v3.toNatClampNeg v6)) fun S8 => elet (l4 + Int32.ofInt (1)) fun v9 => fr_copy_16_12_b3 n S8 l1 l3 v9)
set_option maxHeartbeats 4000000 in
set_option maxRecDepth 100000 in
theorem tr_copy_16_12_b3 {p : Program} {l : Launch} {e : Env} {s : State} {m : MethodId} {args : Array Value} {below : List Frame} {meth : Method} {c : Code} {Q : State → Prop} {D : va_G} {A : Nat → Prop} {H0 : Heap} {cI cJ cZ : ClassId} {ad : Nat → Nat} {S1 : MS} (E : mE p c cX12_copy s m args (Cond.code yX12_copy cX12_copy 5 none :: wsM) D cI cJ cZ) (hA : ∀ q : Nat, H0.size ≤ q → A q) (hR : sR s) (hml : c.maxLocals = 5) (kr29 : ∀ (H : Heap) (locs : List Loc) (ls : Array Slot), mG D cI cJ cZ ad A H0 H locs S1 → W p l e { frames := 1, cells := 0, slots := 0, locals := 0 } s m args below meth c H locs 0 0 Q (F0 m 29 ls [])) : ∀ n : Nat, ∀ (S : MS) (H : Heap) (locs : List Loc) (ls : Array Slot) (l1 : Int32) (l3 : Int32) (l4 : Int32), fr_copy_16_12_b3 n S l1 l3 l4 = some S1 → mG D cI cJ cZ ad A H0 H locs S → lv_has ls 5 [(0, .ref (ad 16)), (1, .int l1), (2, .ref (ad 12)), (3, .int l3), (4, .int l4)] → W p l e { frames := 1, cells := 0, slots := 0, locals := 0 } s m args below meth c H locs 0 0 Q (F0 m 3 ls []) := by
  have hx := E.1
  have hb := E.2.1
  have hts := E.2.2.1
  have hown := E.2.2.2.1
  have hK := E.2.2.2.2.1
  intro n
  induction n with
  | zero =>
    intro S H locs ls l1 l3 l4 h
    have h : (none : Option (MS)) = some S1 := h
    cases h
  | succ n ih =>
    intro S H locs ls l1 l3 l4 h G hl
    unfold fr_copy_16_12_b3 at h
    refine lv_iload hx hb dX12_copy_3 (lv_at hl 4 rfl) ?_
    refine lv_sipush (v := 2455) hx hb dX12_copy_5 (by decide) ?_
    refine lv_icmp_ge (tgt := 29) hx hb dX12_copy_8 (by decide) (fun c2 => ?_) (fun c2 => ?_)
    · have h := oif_pos c2 h
      rw [osome1 h] at G
      exact kr29 _ _ _ G
    · have h := oif_neg c2 h
      refine lv_aload_n hx hb dX12_copy_11 rfl (lv_at hl 2 rfl) ?_
      refine lv_iload_n hx hb dX12_copy_12 rfl (lv_at hl 3 rfl) ?_
      refine lv_iload hx hb dX12_copy_13 (lv_at hl 4 rfl) ?_
      refine lv_iadd hx hb dX12_copy_15 ?_
      refine lv_topi (fun v3 ev3 => ?_)
      have h := elet_at ev3 h
      clear ev3
      refine lv_aload_n hx hb dX12_copy_16 rfl (lv_at hl 0 rfl) ?_
      refine lv_iload_n hx hb dX12_copy_17 rfl (lv_at hl 1 rfl) ?_
      refine lv_iload hx hb dX12_copy_18 (lv_at hl 4 rfl) ?_
      refine lv_iadd hx hb dX12_copy_20 ?_
      refine lv_topi (fun v4 ev4 => ?_)
      have h := elet_at ev4 h
      clear ev4
      obtain ⟨g5, h⟩ := oif_some h
      refine m_iald E G 16 8 (n := 4910) (k := v4.toNatClampNeg) rfl (inb_k g5).1 (inb_k g5).2 (by decide) dX12_copy_21 ?_
      refine lv_topi (fun v6 ev6 => ?_)
      have h := elet_at ev6 h
      clear ev6
      obtain ⟨g7, h⟩ := oif_some h
      refine m_iast E G 12 4 (k := v3.toNatClampNeg) (v := v6) rfl (fun _ => rfl) (inb_k g7).1 (inb_k g7).2 (by decide) dX12_copy_22 (fun H locs G => ?_)
      obtain ⟨S8, eS8, h⟩ := elet_some h
      rw [← eS8] at G
      clear eS8
      obtain ⟨v9, ev9, h⟩ := elet_some h
      refine lv_iinc (v := v9) (lv' := [(4, .int v9), (0, .ref (ad 16)), (1, .int l1), (2, .ref (ad 12)), (3, .int l3)]) hx hb dX12_copy_23 hl (k := 4) rfl ev9.symm (by decide) rfl (fun ls hl => ?_)
      refine lv_goto (tgt := 3) hx hb dX12_copy_26 (by decide) ?_
      have hl := lv_sub hl [1, 2, 3, 4, 0] rfl
      exact ih _ _ _ _ _ _ _ h G hl
def fr_copy_16_12 (S : MS) (a1 : Int32) (a3 : Int32) : Option (MS) := fr_copy_16_12_b3 16384 S a1 a3 0
set_option maxHeartbeats 4000000 in
set_option maxRecDepth 100000 in
theorem tr_copy_16_12 (l : Launch) (D : va_G) (cI cJ cZ : ClassId) (ad : Nat → Nat) (S : MS) (a1 : Int32) (a3 : Int32) {S1 : MS} (h : fr_copy_16_12 S a1 a3 = some S1) : mCs l yX12_copy (Cond.code yX12_copy cX12_copy 5 none :: wsM) 1 0 D cI cJ cZ ad S [.ref (ad 16), .int a1, .ref (ad 12), .int a3] (fun S9 => S9 = S1) := by
  intro sz
  refine Met.ofW (cc := cX12_copy) (maxL := 5) (ret := none) (by decide) rfl ?_
  intro p e s m args below meth c s₁ B hml hv
  obtain ⟨rfl, hsz, hP, hK, hD0, hR⟩ := hv
  have hx := B.exec
  have hb := B.bytes
  have hr := B.returns
  have hts := atoms_spec (ws := (Cond.code yX12_copy cX12_copy 5 none :: wsM)) B.pre
  have hown : s.vm.findClass RX12 = some m.cls := findClass_of_methodNamed B.named
  have hlocks := B.notSynchronized
  subst hsz
  have hD := hD0.self (sz := s.heap.size)
  generalize hAe : va_A (MW cI cJ cZ ad S) s.heap.size = A at hD ⊢
  have hA : ∀ q : Nat, s.heap.size ≤ q → A q := fun q h => by rw [← hAe]; exact Or.inr h
  have G : mG D cI cJ cZ ad A s.heap s.heap [] S := ⟨hP, hD, va_S.rf⟩
  have E : mE p c cX12_copy s m ([.ref (ad 16), .int a1, .ref (ad 12), .int a3] : List Value).toArray (Cond.code yX12_copy cX12_copy 5 none :: wsM) D cI cJ cZ := ⟨hx, hb, hts, hown, hK, fun w h => .tail _ (iM_x h)⟩
  have hl := lv_entry ([.ref (ad 16), .int a1, .ref (ad 12), .int a3]) (n := 5) (Nat.le_of_ble_eq_true rfl)
  rw [lg_entry_eq]
  generalize (lg_sl ([.ref (ad 16), .int a1, .ref (ad 12), .int a3]) ++ List.replicate (5 - (lg_sl ([.ref (ad 16), .int a1, .ref (ad 12), .int a3])).length) Slot.unset).toArray = ls at hl ⊢
  have hl : lv_has ls 5 [(0, .ref (ad 16)), (1, .int a1), (2, .ref (ad 12)), (3, .int a3)] := hl
  unfold fr_copy_16_12 at h
  refine lv_iconst (v := 0) hx hb dX12_copy_0 (by decide) ?_
  refine lv_istore (lv' := [(4, .int 0), (0, .ref (ad 16)), (1, .int a1), (2, .ref (ad 12)), (3, .int a3)]) hx hb dX12_copy_1 hl (by decide) rfl (fun ls hl => ?_)
  have hl := lv_sub hl [1, 2, 3, 4, 0] rfl
  exact tr_copy_16_12_b3 E hA hR hml (fun H locs ls G => W.vret hx hb hr (fun t ht hW => ⟨⟨S1, rfl, rfl, ⟨by rw [ht]; exact G.1, va_K.moved hW.alike hK, G.2.1⟩⟩, G.2.2.F ht⟩) G.2.2.2.2 dX12_copy_29) _ _ _ _ _ _ _ _ h G hl
def fr_restore_b28  (S : MS) (s0 : Int32) (l1 : Int32) : Option (Int32 × MS) := elet (mi S 0 s0) fun S2 => elet (S2.1 0) fun v3 => if v3 ≤ 0 then (elet (2455 * l1) fun v5 => obind (fr_copy_16_12 S2 v5 0) fun S6 => elet (mi S6 19 0) fun S9 => obind2 (fr_bestIn_12 S9) fun r13 S10 => some (r13, S10)) else (some (0, S2))
set_option maxHeartbeats 4000000 in
set_option maxRecDepth 100000 in
theorem tr_restore_b28 {p : Program} {l : Launch} {e : Env} {s : State} {m : MethodId} {args : Array Value} {below : List Frame} {meth : Method} {c : Code} {Q : State → Prop} {D : va_G} {A : Nat → Prop} {H0 : Heap} {cI cJ cZ : ClassId} {ad : Nat → Nat} {r1 : Int32} {S1 : MS} (E : mE p c cX12_restore s m args (Cond.code yX12_restore cX12_restore 2 (some .int) :: wsM) D cI cJ cZ) (hA : ∀ q : Nat, H0.size ≤ q → A q) (hR : sR s) (hml : c.maxLocals = 2) (kr39 : ∀ (H : Heap) (locs : List Loc) (ls : Array Slot), mG D cI cJ cZ ad A H0 H locs S1 → W p l e { frames := 8, cells := 0, slots := 0, locals := 163 } s m args below meth c H locs 0 0 Q (F0 m 39 ls [.int r1])) (kr70 : ∀ (H : Heap) (locs : List Loc) (ls : Array Slot), mG D cI cJ cZ ad A H0 H locs S1 → W p l e { frames := 8, cells := 0, slots := 0, locals := 163 } s m args below meth c H locs 0 0 Q (F0 m 70 ls [.int r1])) : ∀ (S : MS) (H : Heap) (locs : List Loc) (ls : Array Slot) (s0 : Int32) (l1 : Int32), fr_restore_b28 S s0 l1 = some (r1, S1) → mG D cI cJ cZ ad A H0 H locs S → lv_has ls 2 [(0, .ref (ad 0)), (1, .int l1)] → W p l e { frames := 8, cells := 0, slots := 0, locals := 163 } s m args below meth c H locs 0 0 Q (F0 m 28 ls [.int s0, .ref (ad 0)]) := by
  have hx := E.1
  have hb := E.2.1
  have hts := E.2.2.1
  have hown := E.2.2.2.1
  have hK := E.2.2.2.2.1
  intro S H locs ls s0 l1 h G hl
  unfold fr_restore_b28 at h
  refine m_put E G 0 (by decide) (.tail _ qM_26) (mw_i0 _ _ _ _ _ s0) dX12_restore_28 ⟨rfl, rfl, rfl⟩ rfl rfl (fun H locs G => ?_)
  obtain ⟨S2, eS2, h⟩ := elet_some h
  rw [← eS2] at G
  clear eS2
  refine lv_aload_n hx hb dX12_restore_31 rfl (lv_at hl 0 rfl) ?_
  refine m_get E G 0 (v := .int (S2.1 0)) (by decide) (.tail _ qM_26) rfl dX12_restore_32 rfl ?_
  refine lv_topi (fun v3 ev3 => ?_)
  have h := elet_at ev3 h
  clear ev3
  refine lv_if_le (tgt := 40) hx hb dX12_restore_35 (by decide) (fun c4 => ?_) (fun c4 => ?_)
  · have h := oif_pos c4 h
    refine lv_aload_n hx hb dX12_restore_40 rfl (lv_at hl 0 rfl) ?_
    refine m_get E G 16 (v := .ref (ad 16)) (by decide) (.tail _ qM_13) rfl dX12_restore_41 rfl ?_
    refine lv_sipush (v := 2455) hx hb dX12_restore_44 (by decide) ?_
    refine lv_iload_n hx hb dX12_restore_47 rfl (lv_at hl 1 rfl) ?_
    refine lv_imul hx hb dX12_restore_48 ?_
    refine lv_topi (fun v5 ev5 => ?_)
    have h := elet_at ev5 h
    clear ev5
    refine lv_aload_n hx hb dX12_restore_49 rfl (lv_at hl 0 rfl) ?_
    refine m_get E G 12 (v := .ref (ad 12)) (by decide) (.tail _ qM_9) rfl dX12_restore_50 rfl ?_
    refine lv_iconst (v := 0) hx hb dX12_restore_53 (by decide) ?_
    obtain ⟨S6, eS6, h⟩ := obind_some h
    refine m_calls (As := [.ref (ad 16), .int v5, .ref (ad 12), .int 0]) (rest := []) E G hA hR hml (tr_copy_16_12 l D cI cJ cZ ad S2 v5 0 eS6) (cwS 4 hts (gmS qM_201 qM_202 qM_35 qM_203) rfl rfl rfl (by decide +kernel) ⟨Nat.le_of_ble_eq_true rfl, Nat.le_of_ble_eq_true rfl⟩) rfl hl.1 rfl (lv_room (Nat.le_of_ble_eq_true rfl)) dX12_restore_54 ⟨Nat.zero_le _, Nat.zero_le _⟩ (fun S8 H locs hq G => ?_)
    rw [hq] at G
    clear hq eS6
    refine lv_aload_n hx hb dX12_restore_57 rfl (lv_at hl 0 rfl) ?_
    refine lv_iconst (v := 0) hx hb dX12_restore_58 (by decide) ?_
    refine m_put E G 19 (by decide) (.tail _ qM_194) (mw_i19 _ _ _ _ _ 0) dX12_restore_59 ⟨rfl, rfl, rfl⟩ rfl rfl (fun H locs G => ?_)
    obtain ⟨S9, eS9, h⟩ := elet_some h
    rw [← eS9] at G
    clear eS9
    refine lv_aload_n hx hb dX12_restore_62 rfl (lv_at hl 0 rfl) ?_
    refine lv_aload_n hx hb dX12_restore_63 rfl (lv_at hl 0 rfl) ?_
    refine m_get E G 12 (v := .ref (ad 12)) (by decide) (.tail _ qM_9) rfl dX12_restore_64 rfl ?_
    obtain ⟨r13, S10, eS10, h⟩ := obind2_some h
    refine m_calli (As := [.ref (ad 12)]) (rest := []) E G hA hR hml (tr_bestIn_12 l D cI cJ cZ ad S9 eS10) (cwV 1 hts (gmV qM_360 qM_361 qM_362 qM_35 qM_300) rfl rfl rfl (by decide +kernel) ⟨Nat.le_of_ble_eq_true rfl, Nat.le_of_ble_eq_true rfl⟩) rfl hl.1 rfl (lv_room (Nat.le_of_ble_eq_true rfl)) dX12_restore_67 ⟨Nat.zero_le _, Nat.zero_le _⟩ (fun q11 S12 H locs hq G => ?_)
    obtain ⟨hq1, hq2⟩ := hq
    rw [hq2] at G
    refine lv_to hq1 ?_
    clear hq1 hq2 eS10
    rw [(osome2 h).2] at G
    refine lv_to (osome2 h).1 ?_
    exact kr70 _ _ _ G
  · have h := oif_neg c4 h
    refine lv_iconst (v := 0) hx hb dX12_restore_38 (by decide) ?_
    rw [(osome2 h).2] at G
    refine lv_to (osome2 h).1 ?_
    exact kr39 _ _ _ G
def fr_restore (S : MS) (a0 : Int32) : Option (Int32 × MS) := obind (fr_in a0 0 1) fun r2 => if r2 = 0 then (fr_restore_b28 S 1 a0) else (oif (inb a0 2 = true) <| elet (S.2.1 18 a0.toNatClampNeg) fun v6 => if v6 = 0 then (fr_restore_b28 S 2 a0) else (fr_restore_b28 S 0 a0))
set_option maxHeartbeats 4000000 in
set_option maxRecDepth 100000 in
theorem tr_restore (l : Launch) (D : va_G) (cI cJ cZ : ClassId) (ad : Nat → Nat) (S : MS) (a0 : Int32) {r1 : Int32} {S1 : MS} (h : fr_restore S a0 = some (r1, S1)) : mCi l yX12_restore (Cond.code yX12_restore cX12_restore 2 (some .int) :: wsM) 8 163 D cI cJ cZ ad S [.int a0] (fun r S9 => r = r1 ∧ S9 = S1) := by
  intro sz
  refine Met.ofW (cc := cX12_restore) (maxL := 2) (ret := (some .int)) (by decide) rfl ?_
  intro p e s m args below meth c s₁ B hml hv
  obtain ⟨rfl, hsz, hP, hK, hD0, hR⟩ := hv
  have hx := B.exec
  have hb := B.bytes
  have hr := B.returns
  have hts := atoms_spec (ws := (Cond.code yX12_restore cX12_restore 2 (some .int) :: wsM)) B.pre
  have hown : s.vm.findClass RX12 = some m.cls := findClass_of_methodNamed B.named
  have hlocks := B.notSynchronized
  subst hsz
  have hD := hD0.self (sz := s.heap.size)
  generalize hAe : va_A (MW cI cJ cZ ad S) s.heap.size = A at hD ⊢
  have hA : ∀ q : Nat, s.heap.size ≤ q → A q := fun q h => by rw [← hAe]; exact Or.inr h
  have G : mG D cI cJ cZ ad A s.heap s.heap [] S := ⟨hP, hD, va_S.rf⟩
  have E : mE p c cX12_restore s m ([.ref (ad 0), .int a0] : List Value).toArray (Cond.code yX12_restore cX12_restore 2 (some .int) :: wsM) D cI cJ cZ := ⟨hx, hb, hts, hown, hK, fun w h => .tail _ (iM_x h)⟩
  have hl := lv_entry ([.ref (ad 0), .int a0]) (n := 2) (Nat.le_of_ble_eq_true rfl)
  rw [lg_entry_eq]
  generalize (lg_sl ([.ref (ad 0), .int a0]) ++ List.replicate (2 - (lg_sl ([.ref (ad 0), .int a0])).length) Slot.unset).toArray = ls at hl ⊢
  have hl : lv_has ls 2 [(0, .ref (ad 0)), (1, .int a0)] := hl
  unfold fr_restore at h
  refine lv_aload_n hx hb dX12_restore_0 rfl (lv_at hl 0 rfl) ?_
  refine lv_iload_n hx hb dX12_restore_1 rfl (lv_at hl 1 rfl) ?_
  refine lv_iconst (v := 0) hx hb dX12_restore_2 (by decide) ?_
  refine lv_iconst (v := 1) hx hb dX12_restore_3 (by decide) ?_
  obtain ⟨r2, er2, h⟩ := obind_some h
  refine m_stat (As := [.int a0, .int 0, .int 1]) (rest := [.ref (ad 0)]) ⟨hx, hb, hml, hown, hts⟩ (tr_in l a0 0 1 er2) (cwS 3 hts (gmS qM_52 qM_53 qM_35 qM_27) rfl rfl rfl (by decide +kernel) ⟨Nat.le_of_ble_eq_true rfl, Nat.le_of_ble_eq_true rfl⟩) rfl hl.1 rfl (lv_room (Nat.le_of_ble_eq_true rfl)) dX12_restore_4 ⟨Nat.zero_le _, Nat.zero_le _⟩ (fun q3 hq => ?_)
  refine lv_to hq ?_
  clear hq er2
  refine lv_if_ne (tgt := 14) hx hb dX12_restore_7 (by decide) (fun c4 => ?_) (fun c4 => ?_)
  · have h := oif_neg c4 h
    refine lv_aload_n hx hb dX12_restore_14 rfl (lv_at hl 0 rfl) ?_
    refine m_get E G 18 (v := .ref (ad 18)) (by decide) (.tail _ qM_16) rfl dX12_restore_15 rfl ?_
    refine lv_iload_n hx hb dX12_restore_18 rfl (lv_at hl 1 rfl) ?_
    obtain ⟨g5, h⟩ := oif_some h
    refine m_zald E G 18 10 (n := 2) (k := a0.toNatClampNeg) rfl (inb_k g5).1 (inb_k g5).2 (by decide) dX12_restore_19 ?_
    refine lv_topi (fun v6 ev6 => ?_)
    have h := elet_at ev6 h
    clear ev6
    refine lv_if_eq (tgt := 27) hx hb dX12_restore_20 (by decide) (fun c7 => ?_) (fun c7 => ?_)
    · have h := oif_pos c7 h
      refine lv_iconst (v := 2) hx hb dX12_restore_27 (by decide) ?_
      have hl := lv_sub hl [0, 1] rfl
      exact tr_restore_b28 E hA hR hml (fun H locs ls G => W.iret (v := r1) hx hb hr (fun t ht hW => ⟨⟨r1, S1, rfl, ⟨rfl, rfl⟩, ⟨by rw [ht]; exact G.1, va_K.moved hW.alike hK, G.2.1⟩⟩, G.2.2.F ht⟩) G.2.2.2.2 dX12_restore_39) (fun H locs ls G => W.iret (v := r1) hx hb hr (fun t ht hW => ⟨⟨r1, S1, rfl, ⟨rfl, rfl⟩, ⟨by rw [ht]; exact G.1, va_K.moved hW.alike hK, G.2.1⟩⟩, G.2.2.F ht⟩) G.2.2.2.2 dX12_restore_70) _ _ _ _ _ _ h G hl
    · have h := oif_neg c7 h
      refine lv_iconst (v := 0) hx hb dX12_restore_23 (by decide) ?_
      refine lv_goto (tgt := 28) hx hb dX12_restore_24 (by decide) ?_
      have hl := lv_sub hl [0, 1] rfl
      exact tr_restore_b28 E hA hR hml (fun H locs ls G => W.iret (v := r1) hx hb hr (fun t ht hW => ⟨⟨r1, S1, rfl, ⟨rfl, rfl⟩, ⟨by rw [ht]; exact G.1, va_K.moved hW.alike hK, G.2.1⟩⟩, G.2.2.F ht⟩) G.2.2.2.2 dX12_restore_39) (fun H locs ls G => W.iret (v := r1) hx hb hr (fun t ht hW => ⟨⟨r1, S1, rfl, ⟨rfl, rfl⟩, ⟨by rw [ht]; exact G.1, va_K.moved hW.alike hK, G.2.1⟩⟩, G.2.2.F ht⟩) G.2.2.2.2 dX12_restore_70) _ _ _ _ _ _ h G hl
  · have h := oif_pos c4 h
    refine lv_iconst (v := 1) hx hb dX12_restore_10 (by decide) ?_
    refine lv_goto (tgt := 28) hx hb dX12_restore_11 (by decide) ?_
    have hl := lv_sub hl [0, 1] rfl
    exact tr_restore_b28 E hA hR hml (fun H locs ls G => W.iret (v := r1) hx hb hr (fun t ht hW => ⟨⟨r1, S1, rfl, ⟨rfl, rfl⟩, ⟨by rw [ht]; exact G.1, va_K.moved hW.alike hK, G.2.1⟩⟩, G.2.2.F ht⟩) G.2.2.2.2 dX12_restore_39) (fun H locs ls G => W.iret (v := r1) hx hb hr (fun t ht hW => ⟨⟨r1, S1, rfl, ⟨rfl, rfl⟩, ⟨by rw [ht]; exact G.1, va_K.moved hW.alike hK, G.2.1⟩⟩, G.2.2.F ht⟩) G.2.2.2.2 dX12_restore_70) _ _ _ _ _ _ h G hl
end
