/-- AcousticCamera: its blocks of cells -/
def n3off : Nat → Nat := fun j => ([1, 3, 9, 24, 77, 81, 85, 106, 129, 130, 131, 132, 133, 311, 489, 510, 531, 552, 573, 594, 615, 636] : List Nat).getD j 0
def n3len : Nat → Nat := fun j => ([2, 6, 15, 53, 4, 4, 21, 21, 1, 1, 1, 1, 178, 178, 21, 21, 21, 21, 21, 21, 21, 21] : List Nat).getD j 0
def n3blk (cI cJ cZ cMic cSrc cSt cAI cAJ : ClassId) (j : Nat) (b : Nat → Nat) : Nat → va_E := match j with
  | 0 => iX2 cI cJ cZ cMic cSrc cSt cAI cAJ b
  | 1 => iX4 cI cJ cZ cMic cSrc cSt cAI cAJ b
  | 2 => iX6 cI cJ cZ cMic cSrc cSt cAI cAJ b
  | 3 => iX0 cI cJ cZ cMic cSrc cSt cAI cAJ b
  | 4 => iX5 cI cJ cZ cMic cSrc cSt cAI cAJ b
  | 5 => iX5 cI cJ cZ cMic cSrc cSt cAI cAJ b
  | 6 => iX9 cI cJ cZ cMic cSrc cSt cAI cAJ b
  | 7 => iX9 cI cJ cZ cMic cSrc cSt cAI cAJ b
  | 8 => fun _ => .inl (cZ, 2, .inl (fun _ => 0))
  | 9 => fun _ => .inl (cI, 12, .inl (fun _ => 0))
  | 10 => fun _ => .inl (cJ, 12, .inr (.inl (fun _ => 0)))
  | 11 => fun _ => .inl (cI, 155, .inl (fun _ => 0))
  | 12 => iX7 cI cJ cZ cMic cSrc cSt cAI cAJ b
  | 13 => iX7 cI cJ cZ cMic cSrc cSt cAI cAJ b
  | 14 => iX9 cI cJ cZ cMic cSrc cSt cAI cAJ b
  | 15 => iX9 cI cJ cZ cMic cSrc cSt cAI cAJ b
  | 16 => iX9 cI cJ cZ cMic cSrc cSt cAI cAJ b
  | 17 => iX9 cI cJ cZ cMic cSrc cSt cAI cAJ b
  | 18 => iX9 cI cJ cZ cMic cSrc cSt cAI cAJ b
  | 19 => iX9 cI cJ cZ cMic cSrc cSt cAI cAJ b
  | 20 => iX9 cI cJ cZ cMic cSrc cSt cAI cAJ b
  | 21 => iX9 cI cJ cZ cMic cSrc cSt cAI cAJ b
  | _ => fun _ => .inr (0, [])
def BL (cI cJ cZ cMic cSrc cSt cAI cAJ : ClassId) (n : Nat) (ad : Nat → Nat) (S : Nat → va_E) (bs : Nat → Nat → Nat) : Prop := ∀ j, j < n → ∀ i, i < n3len j → S (n3off j + i) = n3blk cI cJ cZ cMic cSrc cSt cAI cAJ j (bs j) i ∧ ad (n3off j + i) = bs j i
theorem cat_cat {α : Type} {N : Nat} {f g h : Nat → α} : cat N (cat N f g) h = cat N f h := by
  funext n
  by_cases q : n < N
  · rw [cat_lo q, cat_lo q, cat_lo q]
  · rw [cat_hi (Nat.not_lt.mp q), cat_hi (Nat.not_lt.mp q)]
section BLR
variable {cI cJ cZ cMic cSrc cSt cAI cAJ : ClassId} {n N q : Nat} {ad b g1 : Nat → Nat} {S T g2 : Nat → va_E} {bs : Nat → Nat → Nat} {e : va_E}
theorem BL_push (h : BL cI cJ cZ cMic cSrc cSt cAI cAJ n ad S bs) (hN : ∀ j, j < n → n3off j + n3len j ≤ N) (ho : n3off n = N) (hT : ∀ i, i < n3len n → T i = n3blk cI cJ cZ cMic cSrc cSt cAI cAJ n b i) : BL cI cJ cZ cMic cSrc cSt cAI cAJ (n + 1) (cat N ad b) (cat N S T) (va_up bs n b) := by
  intro j hj i hi
  rcases Nat.lt_or_eq_of_le (Nat.le_of_lt_succ hj) with h1 | rfl
  · have h2 : n3off j + i < N := Nat.lt_of_lt_of_le (Nat.add_lt_add_left hi _) (hN j h1)
    rw [va_up_ne _ _ (Nat.ne_of_lt h1), cat_lo h2, cat_lo h2]
    exact h j h1 i hi
  · have h2 : N ≤ n3off j + i := by rw [ho]; exact Nat.le_add_right _ _
    rw [va_up_self, cat_hi h2, cat_hi h2, ho, Nat.add_sub_cancel_left]
    exact ⟨hT i hi, rfl⟩
theorem BL_skip (h : BL cI cJ cZ cMic cSrc cSt cAI cAJ n ad S bs) (hN : ∀ j, j < n → n3off j + n3len j ≤ N) : BL cI cJ cZ cMic cSrc cSt cAI cAJ n (cat N ad g1) (cat N S g2) bs := by
  intro j hj i hi
  have h2 : n3off j + i < N := Nat.lt_of_lt_of_le (Nat.add_lt_add_left hi _) (hN j hj)
  rw [cat_lo h2, cat_lo h2]
  exact h j hj i hi
theorem BL_put (h : BL cI cJ cZ cMic cSrc cSt cAI cAJ n ad S bs) (hq : ∀ j, j < n → n3off j + n3len j ≤ q ∨ q < n3off j) : BL cI cJ cZ cMic cSrc cSt cAI cAJ n ad (va_up S q e) bs := by
  intro j hj i hi
  rw [va_up_ne _ _ (show n3off j + i ≠ q from fun h9 => by rcases hq j hj with h3 | h3 <;> omega)]
  exact h j hj i hi
end BLR
def iX11_0 (cI cJ cZ cMic cSrc cSt cAI cAJ : ClassId) (b : Nat → Nat) : va_E := .inr (11, [.ref (b 1), .ref (b 3), .ref (b 9), .ref (b 24), .ref (b 77), .ref (b 81), .ref (b 85), .ref (b 106), .ref (b 127), .ref (b 128), .ref (b 129), .ref (b 130), .ref (b 131), .ref (b 132), .ref (b 133), .ref (b 311), .int 0, .int 0, .int 0])
def iX11_127 (cI cJ cZ cMic cSrc cSt cAI cAJ : ClassId) (b : Nat → Nat) : va_E := .inl (cSt, 6, .inr (.inr (.inr (.inr (va_up (va_up (va_up (va_up (va_up (va_up (fun _ => none) 0 (some (b 489))) 1 (some (b 510))) 2 (some (b 531))) 3 (some (b 552))) 4 (some (b 573))) 5 (some (b 594)))))))
def iX11_128 (cI cJ cZ cMic cSrc cSt cAI cAJ : ClassId) (b : Nat → Nat) : va_E := .inl (cSt, 2, .inr (.inr (.inr (.inr (va_up (va_up (fun _ => none) 0 (some (b 615))) 1 (some (b 636)))))))
set_option maxHeartbeats 8000000 in
set_option maxRecDepth 100000 in
theorem n_X11 (l : Launch) (D : va_G) (cI cJ cZ cMic cSrc cSt cAI cAJ : ClassId) : cN l yX11_init (Cond.code yX11_init cX11_init 2 none :: wsA) 3 53 656 44817 D (CT cI cJ cZ cMic cSrc cSt cAI cAJ) nX 11 [.null, .null, .null, .null, .null, .null, .null, .null, .null, .null, .null, .null, .null, .null, .null, .null, .int 0, .int 0, .int 0] 657 (fun b T => T 0 = iX11_0 cI cJ cZ cMic cSrc cSt cAI cAJ b ∧ T 127 = iX11_127 cI cJ cZ cMic cSrc cSt cAI cAJ b ∧ T 128 = iX11_128 cI cJ cZ cMic cSrc cSt cAI cAJ b ∧ ∃ bs, BL cI cJ cZ cMic cSrc cSt cAI cAJ 22 b T bs) := by
  intro h sz
  refine Met.ofW (cc := cX11_init) (maxL := 2) (ret := none) (by decide) rfl ?_
  intro p e s m args below meth c s₁ B hml hv
  obtain ⟨rfl, hsz, hP, hK, hD0, hxs⟩ := hv
  have hx := B.exec
  have hb := B.bytes
  have hr := B.returns
  have hts := atoms_spec (ws := (Cond.code yX11_init cX11_init 2 none :: wsA)) B.pre
  have hown : s.vm.findClass RX11 = some m.cls := findClass_of_methodNamed B.named
  have hlocks := B.notSynchronized
  have hin : meth.name = "<init>" := (name_of_methodNamed B.named B.method).1
  subst hsz
  have hD := hD0.self (sz := s.heap.size)
  generalize hAe : va_A (cW (fun _ => h) 1 (fun _ => .inr (11, [.null, .null, .null, .null, .null, .null, .null, .null, .null, .null, .null, .null, .null, .null, .null, .null, .int 0, .int 0, .int 0]))) s.heap.size = A at hD ⊢
  have hA : ∀ q : Nat, s.heap.size ≤ q → A q := fun q h => by rw [← hAe]; exact Or.inr h
  have G : cG D (fun _ => h) 1 A s.heap s.heap [] (fun _ => .inr (11, [.null, .null, .null, .null, .null, .null, .null, .null, .null, .null, .null, .null, .null, .null, .null, .null, .int 0, .int 0, .int 0])) := ⟨hP, hD, va_S.rf⟩
  have E : cE p c cX11_init s m ([.ref h] : List Value).toArray (Cond.code yX11_init cX11_init 2 none :: wsA) D RX11 (CT cI cJ cZ cMic cSrc cSt cAI cAJ) := ⟨hx, hb, hts, hown, hK⟩
  have hl := lv_entry ([.ref h]) (n := 2) (Nat.le_of_ble_eq_true rfl)
  rw [lg_entry_eq]
  generalize (lg_sl ([.ref h]) ++ List.replicate (2 - (lg_sl ([.ref h])).length) Slot.unset).toArray = ls at hl ⊢
  have hl : lv_has ls 2 [(0, .ref h)] := hl
  have h0 : (fun _ : Nat => (.inr (11, [.null, .null, .null, .null, .null, .null, .null, .null, .null, .null, .null, .null, .null, .null, .null, .null, .int 0, .int 0, .int 0]) : va_E)) 0 = .inr (11, [.null, .null, .null, .null, .null, .null, .null, .null, .null, .null, .null, .null, .null, .null, .null, .null, .int 0, .int 0, .int 0]) := rfl
  have a0 : (fun _ : Nat => h) 0 = h := rfl
  have hBL : BL cI cJ cZ cMic cSrc cSt cAI cAJ 0 (fun _ => h) (fun _ => .inr (11, [.null, .null, .null, .null, .null, .null, .null, .null, .null, .null, .null, .null, .null, .null, .null, .null, .int 0, .int 0, .int 0])) (fun _ _ => 0) := fun j hj => absurd hj (Nat.not_lt_zero j)
  generalize (fun _ : Nat => h) = ad at G hBL a0
  generalize (fun _ : Nat => (.inr (11, [.null, .null, .null, .null, .null, .null, .null, .null, .null, .null, .null, .null, .null, .null, .null, .null, .int 0, .int 0, .int 0]) : va_E)) = S at G hBL h0
  refine lv_aload_n hx hb dX11_init_0 rfl (lv_at hl 0 rfl) ?_
  refine W.objInit hx hb hown (hts _ (.tail _ qA_545)) (hts _ (.tail _ qA_2)) (hts _ (.tail _ qA_3)) rfl (by rw [hml]; exact hl.1) rfl dX11_init_1 (Nat.le_of_ble_eq_true rfl) (Nat.le_of_ble_eq_true rfl) ?_
  refine W.eq (g2 := F0 m 4 ls []) rfl ?_
  refine lv_aload_n hx hb dX11_init_4 rfl (lv_at hl 0 rfl) ?_
  refine n_new E G hA (ci := 2) (fs := [.null, .int 0]) (fun w h => .tail _ (iA_15 h)) tyX2 tyX2_ok (.tail _ qA_546) (.tail _ qA_547) (.tail _ qA_548) rfl (by decide) (Nat.le_of_ble_eq_true rfl) (Nat.le_of_ble_eq_true rfl) dX11_init_5 (fun q1 H G => ?_)
  refine lv_dup hx hb dX11_init_8 rfl ?_
  refine n_initN (N := 1) E G hA hxs nX.moved hml (n_X2 l D cI cJ cZ cMic cSrc cSt cAI cAJ) ⟨va_cnB (host := "AcousticCamera") 0 hts (gaC qA_107) rfl rfl rfl (hxs.2.2.2.2.2 _ (List.mem_of_getElem? (i := 0) rfl)) (hts _ (.tail _ qA_548)) (by decide +kernel) ⟨Nat.le_of_ble_eq_true rfl, Nat.le_of_ble_eq_true rfl⟩, rfl, hts _ (.tail _ qA_577)⟩ (cat_hi (Nat.le_refl _)) (cat_hi (Nat.le_refl _)) hl.1 (lv_room (Nat.le_of_ble_eq_true rfl)) dX11_init_9 ⟨Nat.le_of_ble_eq_true rfl, Nat.le_of_ble_eq_true rfl⟩ (fun b2 T3 H locs hb4 hT5 G => ?_)
  subst hb4
  rw [cat_cat, cat_cat] at G
  have G : cG D (cat 1 ad b2) 3 A s.heap H locs (cat 1 S T3) := G
  have h0 : cat 1 S T3 0 = .inr (11, [.null, .null, .null, .null, .null, .null, .null, .null, .null, .null, .null, .null, .null, .null, .null, .null, .int 0, .int 0, .int 0]) := (cat_lo (by decide)).trans h0
  have a0 := (cat_lo (N := 1) (g := b2) (show 0 < 1 by decide)).trans a0
  have hBL := BL_push (b := b2) (T := T3) hBL (N := 1) (by decide +kernel) rfl hT5
  generalize cat 1 ad b2 = ad at G hBL h0 a0
  generalize cat 1 S T3 = S at G hBL h0
  refine n_putF E G 0 0 h (fs := [.null, .null, .null, .null, .null, .null, .null, .null, .null, .null, .null, .null, .null, .null, .null, .null, .int 0, .int 0, .int 0]) (fs1 := [.ref (b2 0), .null, .null, .null, .null, .null, .null, .null, .null, .null, .null, .null, .null, .null, .null, .null, .int 0, .int 0, .int 0]) (by decide) a0 h0 rfl (fun w h => .tail _ (iA_22 h)) tyX11 tyX11_ok nmX11 (by decide) (.tail _ qA_549) ⟨rfl, rfl, rfl⟩ hin rfl rfl rfl (Nat.le_of_ble_eq_true rfl) rfl dX11_init_12 (fun H locs G => ?_)
  have hBL := BL_put (q := 0) (e := .inr (11, [.ref (b2 0), .null, .null, .null, .null, .null, .null, .null, .null, .null, .null, .null, .null, .null, .null, .null, .int 0, .int 0, .int 0])) hBL (by decide +kernel)
  have h0 := va_up_self S 0 (.inr (11, [.ref (b2 0), .null, .null, .null, .null, .null, .null, .null, .null, .null, .null, .null, .null, .null, .null, .null, .int 0, .int 0, .int 0]) : va_E)
  generalize va_up S 0 (.inr (11, [.ref (b2 0), .null, .null, .null, .null, .null, .null, .null, .null, .null, .null, .null, .null, .null, .null, .null, .int 0, .int 0, .int 0])) = S at G hBL h0
  refine lv_aload_n hx hb dX11_init_15 rfl (lv_at hl 0 rfl) ?_
  refine n_new E G hA (ci := 4) (fs := [.null, .null, .int 0, .int 0, .int 0]) (fun w h => .tail _ (iA_17 h)) tyX4 tyX4_ok (.tail _ qA_550) (.tail _ qA_551) (.tail _ qA_173) rfl (by decide) (Nat.le_of_ble_eq_true rfl) (Nat.le_of_ble_eq_true rfl) dX11_init_16 (fun q6 H G => ?_)
  refine lv_dup hx hb dX11_init_19 rfl ?_
  refine n_initN (N := 3) E G hA hxs nX.moved hml (n_X4 l D cI cJ cZ cMic cSrc cSt cAI cAJ) ⟨va_cnB (host := "AcousticCamera") 0 hts (gaC qA_114) rfl rfl rfl (hxs.2.2.2.2.2 _ (List.mem_of_getElem? (i := 1) rfl)) (hts _ (.tail _ qA_173)) (by decide +kernel) ⟨Nat.le_of_ble_eq_true rfl, Nat.le_of_ble_eq_true rfl⟩, rfl, hts _ (.tail _ qA_578)⟩ (cat_hi (Nat.le_refl _)) (cat_hi (Nat.le_refl _)) hl.1 (lv_room (Nat.le_of_ble_eq_true rfl)) dX11_init_20 ⟨Nat.le_of_ble_eq_true rfl, Nat.le_of_ble_eq_true rfl⟩ (fun b7 T8 H locs hb9 hT10 G => ?_)
  subst hb9
  rw [cat_cat, cat_cat] at G
  have G : cG D (cat 3 ad b7) 9 A s.heap H locs (cat 3 S T8) := G
  have h0 : cat 3 S T8 0 = .inr (11, [.ref (b2 0), .null, .null, .null, .null, .null, .null, .null, .null, .null, .null, .null, .null, .null, .null, .null, .int 0, .int 0, .int 0]) := (cat_lo (by decide)).trans h0
  have a0 := (cat_lo (N := 3) (g := b7) (show 0 < 3 by decide)).trans a0
  have hBL := BL_push (b := b7) (T := T8) hBL (N := 3) (by decide +kernel) rfl hT10
  generalize cat 3 ad b7 = ad at G hBL h0 a0
  generalize cat 3 S T8 = S at G hBL h0
  refine n_putF E G 0 1 h (fs := [.ref (b2 0), .null, .null, .null, .null, .null, .null, .null, .null, .null, .null, .null, .null, .null, .null, .null, .int 0, .int 0, .int 0]) (fs1 := [.ref (b2 0), .ref (b7 0), .null, .null, .null, .null, .null, .null, .null, .null, .null, .null, .null, .null, .null, .null, .int 0, .int 0, .int 0]) (by decide) a0 h0 rfl (fun w h => .tail _ (iA_22 h)) tyX11 tyX11_ok nmX11 (by decide) (.tail _ qA_552) ⟨rfl, rfl, rfl⟩ hin rfl rfl rfl (Nat.le_of_ble_eq_true rfl) rfl dX11_init_23 (fun H locs G => ?_)
  have hBL := BL_put (q := 0) (e := .inr (11, [.ref (b2 0), .ref (b7 0), .null, .null, .null, .null, .null, .null, .null, .null, .null, .null, .null, .null, .null, .null, .int 0, .int 0, .int 0])) hBL (by decide +kernel)
  have h0 := va_up_self S 0 (.inr (11, [.ref (b2 0), .ref (b7 0), .null, .null, .null, .null, .null, .null, .null, .null, .null, .null, .null, .null, .null, .null, .int 0, .int 0, .int 0]) : va_E)
  generalize va_up S 0 (.inr (11, [.ref (b2 0), .ref (b7 0), .null, .null, .null, .null, .null, .null, .null, .null, .null, .null, .null, .null, .null, .null, .int 0, .int 0, .int 0])) = S at G hBL h0
  refine lv_aload_n hx hb dX11_init_26 rfl (lv_at hl 0 rfl) ?_
  refine n_new E G hA (ci := 6) (fs := [.null, .null]) (fun w h => .tail _ (iA_21 h)) tyX6 tyX6_ok (.tail _ qA_553) (.tail _ qA_554) (.tail _ qA_411) rfl (by decide) (Nat.le_of_ble_eq_true rfl) (Nat.le_of_ble_eq_true rfl) dX11_init_27 (fun q11 H G => ?_)
  refine lv_dup hx hb dX11_init_30 rfl ?_
  refine n_initN (N := 9) E G hA hxs nX.moved hml (n_X6 l D cI cJ cZ cMic cSrc cSt cAI cAJ) ⟨va_cnB (host := "AcousticCamera") 0 hts (gaC qA_388) rfl rfl rfl (hxs.2.2.2.2.2 _ (List.mem_of_getElem? (i := 3) rfl)) (hts _ (.tail _ qA_411)) (by decide +kernel) ⟨Nat.le_of_ble_eq_true rfl, Nat.le_of_ble_eq_true rfl⟩, rfl, hts _ (.tail _ qA_579)⟩ (cat_hi (Nat.le_refl _)) (cat_hi (Nat.le_refl _)) hl.1 (lv_room (Nat.le_of_ble_eq_true rfl)) dX11_init_31 ⟨Nat.le_of_ble_eq_true rfl, Nat.le_of_ble_eq_true rfl⟩ (fun b12 T13 H locs hb14 hT15 G => ?_)
  subst hb14
  rw [cat_cat, cat_cat] at G
  have G : cG D (cat 9 ad b12) 24 A s.heap H locs (cat 9 S T13) := G
  have h0 : cat 9 S T13 0 = .inr (11, [.ref (b2 0), .ref (b7 0), .null, .null, .null, .null, .null, .null, .null, .null, .null, .null, .null, .null, .null, .null, .int 0, .int 0, .int 0]) := (cat_lo (by decide)).trans h0
  have a0 := (cat_lo (N := 9) (g := b12) (show 0 < 9 by decide)).trans a0
  have hBL := BL_push (b := b12) (T := T13) hBL (N := 9) (by decide +kernel) rfl hT15
  generalize cat 9 ad b12 = ad at G hBL h0 a0
  generalize cat 9 S T13 = S at G hBL h0
  refine n_putF E G 0 2 h (fs := [.ref (b2 0), .ref (b7 0), .null, .null, .null, .null, .null, .null, .null, .null, .null, .null, .null, .null, .null, .null, .int 0, .int 0, .int 0]) (fs1 := [.ref (b2 0), .ref (b7 0), .ref (b12 0), .null, .null, .null, .null, .null, .null, .null, .null, .null, .null, .null, .null, .null, .int 0, .int 0, .int 0]) (by decide) a0 h0 rfl (fun w h => .tail _ (iA_22 h)) tyX11 tyX11_ok nmX11 (by decide) (.tail _ qA_555) ⟨rfl, rfl, rfl⟩ hin rfl rfl rfl (Nat.le_of_ble_eq_true rfl) rfl dX11_init_34 (fun H locs G => ?_)
  have hBL := BL_put (q := 0) (e := .inr (11, [.ref (b2 0), .ref (b7 0), .ref (b12 0), .null, .null, .null, .null, .null, .null, .null, .null, .null, .null, .null, .null, .null, .int 0, .int 0, .int 0])) hBL (by decide +kernel)
  have h0 := va_up_self S 0 (.inr (11, [.ref (b2 0), .ref (b7 0), .ref (b12 0), .null, .null, .null, .null, .null, .null, .null, .null, .null, .null, .null, .null, .null, .int 0, .int 0, .int 0]) : va_E)
  generalize va_up S 0 (.inr (11, [.ref (b2 0), .ref (b7 0), .ref (b12 0), .null, .null, .null, .null, .null, .null, .null, .null, .null, .null, .null, .null, .null, .int 0, .int 0, .int 0])) = S at G hBL h0
  refine lv_aload_n hx hb dX11_init_37 rfl (lv_at hl 0 rfl) ?_
  refine n_new E G hA (ci := 0) (fs := [.null, .null]) (fun w h => .tail _ (iA_11 h)) tyX0 tyX0_ok (.tail _ qA_556) (.tail _ qA_557) (.tail _ qA_14) rfl (by decide) (Nat.le_of_ble_eq_true rfl) (Nat.le_of_ble_eq_true rfl) dX11_init_38 (fun q16 H G => ?_)
  refine lv_dup hx hb dX11_init_41 rfl ?_
  refine n_initN (N := 24) E G hA hxs nX.moved hml (n_X0 l D cI cJ cZ cMic cSrc cSt cAI cAJ) ⟨va_cnB (host := "AcousticCamera") 0 hts (gaC qA_0) rfl rfl rfl (hxs.2.2.2.2.2 _ (List.mem_of_getElem? (i := 5) rfl)) (hts _ (.tail _ qA_14)) (by decide +kernel) ⟨Nat.le_of_ble_eq_true rfl, Nat.le_of_ble_eq_true rfl⟩, rfl, hts _ (.tail _ qA_580)⟩ (cat_hi (Nat.le_refl _)) (cat_hi (Nat.le_refl _)) hl.1 (lv_room (Nat.le_of_ble_eq_true rfl)) dX11_init_42 ⟨Nat.le_of_ble_eq_true rfl, Nat.le_of_ble_eq_true rfl⟩ (fun b17 T18 H locs hb19 hT20 G => ?_)
  subst hb19
  rw [cat_cat, cat_cat] at G
  have G : cG D (cat 24 ad b17) 77 A s.heap H locs (cat 24 S T18) := G
  have h0 : cat 24 S T18 0 = .inr (11, [.ref (b2 0), .ref (b7 0), .ref (b12 0), .null, .null, .null, .null, .null, .null, .null, .null, .null, .null, .null, .null, .null, .int 0, .int 0, .int 0]) := (cat_lo (by decide)).trans h0
  have a0 := (cat_lo (N := 24) (g := b17) (show 0 < 24 by decide)).trans a0
  have hBL := BL_push (b := b17) (T := T18) hBL (N := 24) (by decide +kernel) rfl hT20
  generalize cat 24 ad b17 = ad at G hBL h0 a0
  generalize cat 24 S T18 = S at G hBL h0
  refine n_putF E G 0 3 h (fs := [.ref (b2 0), .ref (b7 0), .ref (b12 0), .null, .null, .null, .null, .null, .null, .null, .null, .null, .null, .null, .null, .null, .int 0, .int 0, .int 0]) (fs1 := [.ref (b2 0), .ref (b7 0), .ref (b12 0), .ref (b17 0), .null, .null, .null, .null, .null, .null, .null, .null, .null, .null, .null, .null, .int 0, .int 0, .int 0]) (by decide) a0 h0 rfl (fun w h => .tail _ (iA_22 h)) tyX11 tyX11_ok nmX11 (by decide) (.tail _ qA_558) ⟨rfl, rfl, rfl⟩ hin rfl rfl rfl (Nat.le_of_ble_eq_true rfl) rfl dX11_init_45 (fun H locs G => ?_)
  have hBL := BL_put (q := 0) (e := .inr (11, [.ref (b2 0), .ref (b7 0), .ref (b12 0), .ref (b17 0), .null, .null, .null, .null, .null, .null, .null, .null, .null, .null, .null, .null, .int 0, .int 0, .int 0])) hBL (by decide +kernel)
  have h0 := va_up_self S 0 (.inr (11, [.ref (b2 0), .ref (b7 0), .ref (b12 0), .ref (b17 0), .null, .null, .null, .null, .null, .null, .null, .null, .null, .null, .null, .null, .int 0, .int 0, .int 0]) : va_E)
  generalize va_up S 0 (.inr (11, [.ref (b2 0), .ref (b7 0), .ref (b12 0), .ref (b17 0), .null, .null, .null, .null, .null, .null, .null, .null, .null, .null, .null, .null, .int 0, .int 0, .int 0])) = S at G hBL h0
  refine lv_aload_n hx hb dX11_init_48 rfl (lv_at hl 0 rfl) ?_
  refine n_new E G hA (ci := 5) (fs := [.int 0, .null, .int 0, .int 0, .null, .null]) (fun w h => .tail _ (iA_20 h)) tyX5 tyX5_ok (.tail _ qA_559) (.tail _ qA_560) (.tail _ qA_375) rfl (by decide) (Nat.le_of_ble_eq_true rfl) (Nat.le_of_ble_eq_true rfl) dX11_init_49 (fun q21 H G => ?_)
  refine lv_dup hx hb dX11_init_52 rfl ?_
  refine n_initN (N := 77) E G hA hxs nX.moved hml (n_X5 l D cI cJ cZ cMic cSrc cSt cAI cAJ) ⟨va_cnB (host := "AcousticCamera") 0 hts (gaC qA_355) rfl rfl rfl (hxs.2.2.2.2.2 _ (List.mem_of_getElem? (i := 6) rfl)) (hts _ (.tail _ qA_375)) (by decide +kernel) ⟨Nat.le_of_ble_eq_true rfl, Nat.le_of_ble_eq_true rfl⟩, rfl, hts _ (.tail _ qA_581)⟩ (cat_hi (Nat.le_refl _)) (cat_hi (Nat.le_refl _)) hl.1 (lv_room (Nat.le_of_ble_eq_true rfl)) dX11_init_53 ⟨Nat.le_of_ble_eq_true rfl, Nat.le_of_ble_eq_true rfl⟩ (fun b22 T23 H locs hb24 hT25 G => ?_)
  subst hb24
  rw [cat_cat, cat_cat] at G
  have G : cG D (cat 77 ad b22) 81 A s.heap H locs (cat 77 S T23) := G
  have h0 : cat 77 S T23 0 = .inr (11, [.ref (b2 0), .ref (b7 0), .ref (b12 0), .ref (b17 0), .null, .null, .null, .null, .null, .null, .null, .null, .null, .null, .null, .null, .int 0, .int 0, .int 0]) := (cat_lo (by decide)).trans h0
  have a0 := (cat_lo (N := 77) (g := b22) (show 0 < 77 by decide)).trans a0
  have hBL := BL_push (b := b22) (T := T23) hBL (N := 77) (by decide +kernel) rfl hT25
  generalize cat 77 ad b22 = ad at G hBL h0 a0
  generalize cat 77 S T23 = S at G hBL h0
  refine n_putF E G 0 4 h (fs := [.ref (b2 0), .ref (b7 0), .ref (b12 0), .ref (b17 0), .null, .null, .null, .null, .null, .null, .null, .null, .null, .null, .null, .null, .int 0, .int 0, .int 0]) (fs1 := [.ref (b2 0), .ref (b7 0), .ref (b12 0), .ref (b17 0), .ref (b22 0), .null, .null, .null, .null, .null, .null, .null, .null, .null, .null, .null, .int 0, .int 0, .int 0]) (by decide) a0 h0 rfl (fun w h => .tail _ (iA_22 h)) tyX11 tyX11_ok nmX11 (by decide) (.tail _ qA_561) ⟨rfl, rfl, rfl⟩ hin rfl rfl rfl (Nat.le_of_ble_eq_true rfl) rfl dX11_init_56 (fun H locs G => ?_)
  have hBL := BL_put (q := 0) (e := .inr (11, [.ref (b2 0), .ref (b7 0), .ref (b12 0), .ref (b17 0), .ref (b22 0), .null, .null, .null, .null, .null, .null, .null, .null, .null, .null, .null, .int 0, .int 0, .int 0])) hBL (by decide +kernel)
  have h0 := va_up_self S 0 (.inr (11, [.ref (b2 0), .ref (b7 0), .ref (b12 0), .ref (b17 0), .ref (b22 0), .null, .null, .null, .null, .null, .null, .null, .null, .null, .null, .null, .int 0, .int 0, .int 0]) : va_E)
  generalize va_up S 0 (.inr (11, [.ref (b2 0), .ref (b7 0), .ref (b12 0), .ref (b17 0), .ref (b22 0), .null, .null, .null, .null, .null, .null, .null, .null, .null, .null, .null, .int 0, .int 0, .int 0])) = S at G hBL h0
  refine lv_aload_n hx hb dX11_init_59 rfl (lv_at hl 0 rfl) ?_
  refine n_new E G hA (ci := 5) (fs := [.int 0, .null, .int 0, .int 0, .null, .null]) (fun w h => .tail _ (iA_20 h)) tyX5 tyX5_ok (.tail _ qA_559) (.tail _ qA_560) (.tail _ qA_375) rfl (by decide) (Nat.le_of_ble_eq_true rfl) (Nat.le_of_ble_eq_true rfl) dX11_init_60 (fun q26 H G => ?_)
  refine lv_dup hx hb dX11_init_63 rfl ?_
  refine n_initN (N := 81) E G hA hxs nX.moved hml (n_X5 l D cI cJ cZ cMic cSrc cSt cAI cAJ) ⟨va_cnB (host := "AcousticCamera") 0 hts (gaC qA_355) rfl rfl rfl (hxs.2.2.2.2.2 _ (List.mem_of_getElem? (i := 6) rfl)) (hts _ (.tail _ qA_375)) (by decide +kernel) ⟨Nat.le_of_ble_eq_true rfl, Nat.le_of_ble_eq_true rfl⟩, rfl, hts _ (.tail _ qA_581)⟩ (cat_hi (Nat.le_refl _)) (cat_hi (Nat.le_refl _)) hl.1 (lv_room (Nat.le_of_ble_eq_true rfl)) dX11_init_64 ⟨Nat.le_of_ble_eq_true rfl, Nat.le_of_ble_eq_true rfl⟩ (fun b27 T28 H locs hb29 hT30 G => ?_)
  subst hb29
  rw [cat_cat, cat_cat] at G
  have G : cG D (cat 81 ad b27) 85 A s.heap H locs (cat 81 S T28) := G
  have h0 : cat 81 S T28 0 = .inr (11, [.ref (b2 0), .ref (b7 0), .ref (b12 0), .ref (b17 0), .ref (b22 0), .null, .null, .null, .null, .null, .null, .null, .null, .null, .null, .null, .int 0, .int 0, .int 0]) := (cat_lo (by decide)).trans h0
  have a0 := (cat_lo (N := 81) (g := b27) (show 0 < 81 by decide)).trans a0
  have hBL := BL_push (b := b27) (T := T28) hBL (N := 81) (by decide +kernel) rfl hT30
  generalize cat 81 ad b27 = ad at G hBL h0 a0
  generalize cat 81 S T28 = S at G hBL h0
  refine n_putF E G 0 5 h (fs := [.ref (b2 0), .ref (b7 0), .ref (b12 0), .ref (b17 0), .ref (b22 0), .null, .null, .null, .null, .null, .null, .null, .null, .null, .null, .null, .int 0, .int 0, .int 0]) (fs1 := [.ref (b2 0), .ref (b7 0), .ref (b12 0), .ref (b17 0), .ref (b22 0), .ref (b27 0), .null, .null, .null, .null, .null, .null, .null, .null, .null, .null, .int 0, .int 0, .int 0]) (by decide) a0 h0 rfl (fun w h => .tail _ (iA_22 h)) tyX11 tyX11_ok nmX11 (by decide) (.tail _ qA_562) ⟨rfl, rfl, rfl⟩ hin rfl rfl rfl (Nat.le_of_ble_eq_true rfl) rfl dX11_init_67 (fun H locs G => ?_)
  have hBL := BL_put (q := 0) (e := .inr (11, [.ref (b2 0), .ref (b7 0), .ref (b12 0), .ref (b17 0), .ref (b22 0), .ref (b27 0), .null, .null, .null, .null, .null, .null, .null, .null, .null, .null, .int 0, .int 0, .int 0])) hBL (by decide +kernel)
  have h0 := va_up_self S 0 (.inr (11, [.ref (b2 0), .ref (b7 0), .ref (b12 0), .ref (b17 0), .ref (b22 0), .ref (b27 0), .null, .null, .null, .null, .null, .null, .null, .null, .null, .null, .int 0, .int 0, .int 0]) : va_E)
  generalize va_up S 0 (.inr (11, [.ref (b2 0), .ref (b7 0), .ref (b12 0), .ref (b17 0), .ref (b22 0), .ref (b27 0), .null, .null, .null, .null, .null, .null, .null, .null, .null, .null, .int 0, .int 0, .int 0])) = S at G hBL h0
  refine lv_aload_n hx hb dX11_init_70 rfl (lv_at hl 0 rfl) ?_
  refine n_new E G hA (ci := 9) (fs := [.int 0, .int 0, .int 0, .null, .null, .null, .null, .null, .null, .null, .null]) (fun w h => .tail _ (iA_14 h)) tyX9 tyX9_ok (.tail _ qA_563) (.tail _ qA_564) (.tail _ qA_27) rfl (by decide) (Nat.le_of_ble_eq_true rfl) (Nat.le_of_ble_eq_true rfl) dX11_init_71 (fun q31 H G => ?_)
  refine lv_dup hx hb dX11_init_74 rfl ?_
  refine n_initN (N := 85) E G hA hxs nX.moved hml (n_X9 l D cI cJ cZ cMic cSrc cSt cAI cAJ) ⟨va_cnB (host := "AcousticCamera") 0 hts (gaC qA_512) rfl rfl rfl (hxs.2.2.2.2.2 _ (List.mem_of_getElem? (i := 7) rfl)) (hts _ (.tail _ qA_27)) (by decide +kernel) ⟨Nat.le_of_ble_eq_true rfl, Nat.le_of_ble_eq_true rfl⟩, rfl, hts _ (.tail _ qA_582)⟩ (cat_hi (Nat.le_refl _)) (cat_hi (Nat.le_refl _)) hl.1 (lv_room (Nat.le_of_ble_eq_true rfl)) dX11_init_75 ⟨Nat.le_of_ble_eq_true rfl, Nat.le_of_ble_eq_true rfl⟩ (fun b32 T33 H locs hb34 hT35 G => ?_)
  subst hb34
  rw [cat_cat, cat_cat] at G
  have G : cG D (cat 85 ad b32) 106 A s.heap H locs (cat 85 S T33) := G
  have h0 : cat 85 S T33 0 = .inr (11, [.ref (b2 0), .ref (b7 0), .ref (b12 0), .ref (b17 0), .ref (b22 0), .ref (b27 0), .null, .null, .null, .null, .null, .null, .null, .null, .null, .null, .int 0, .int 0, .int 0]) := (cat_lo (by decide)).trans h0
  have a0 := (cat_lo (N := 85) (g := b32) (show 0 < 85 by decide)).trans a0
  have hBL := BL_push (b := b32) (T := T33) hBL (N := 85) (by decide +kernel) rfl hT35
  generalize cat 85 ad b32 = ad at G hBL h0 a0
  generalize cat 85 S T33 = S at G hBL h0
  refine n_putF E G 0 6 h (fs := [.ref (b2 0), .ref (b7 0), .ref (b12 0), .ref (b17 0), .ref (b22 0), .ref (b27 0), .null, .null, .null, .null, .null, .null, .null, .null, .null, .null, .int 0, .int 0, .int 0]) (fs1 := [.ref (b2 0), .ref (b7 0), .ref (b12 0), .ref (b17 0), .ref (b22 0), .ref (b27 0), .ref (b32 0), .null, .null, .null, .null, .null, .null, .null, .null, .null, .int 0, .int 0, .int 0]) (by decide) a0 h0 rfl (fun w h => .tail _ (iA_22 h)) tyX11 tyX11_ok nmX11 (by decide) (.tail _ qA_565) ⟨rfl, rfl, rfl⟩ hin rfl rfl rfl (Nat.le_of_ble_eq_true rfl) rfl dX11_init_78 (fun H locs G => ?_)
  have hBL := BL_put (q := 0) (e := .inr (11, [.ref (b2 0), .ref (b7 0), .ref (b12 0), .ref (b17 0), .ref (b22 0), .ref (b27 0), .ref (b32 0), .null, .null, .null, .null, .null, .null, .null, .null, .null, .int 0, .int 0, .int 0])) hBL (by decide +kernel)
  have h0 := va_up_self S 0 (.inr (11, [.ref (b2 0), .ref (b7 0), .ref (b12 0), .ref (b17 0), .ref (b22 0), .ref (b27 0), .ref (b32 0), .null, .null, .null, .null, .null, .null, .null, .null, .null, .int 0, .int 0, .int 0]) : va_E)
  generalize va_up S 0 (.inr (11, [.ref (b2 0), .ref (b7 0), .ref (b12 0), .ref (b17 0), .ref (b22 0), .ref (b27 0), .ref (b32 0), .null, .null, .null, .null, .null, .null, .null, .null, .null, .int 0, .int 0, .int 0])) = S at G hBL h0
  refine lv_aload_n hx hb dX11_init_81 rfl (lv_at hl 0 rfl) ?_
  refine n_new E G hA (ci := 9) (fs := [.int 0, .int 0, .int 0, .null, .null, .null, .null, .null, .null, .null, .null]) (fun w h => .tail _ (iA_14 h)) tyX9 tyX9_ok (.tail _ qA_563) (.tail _ qA_564) (.tail _ qA_27) rfl (by decide) (Nat.le_of_ble_eq_true rfl) (Nat.le_of_ble_eq_true rfl) dX11_init_82 (fun q36 H G => ?_)
  refine lv_dup hx hb dX11_init_85 rfl ?_
  refine n_initN (N := 106) E G hA hxs nX.moved hml (n_X9 l D cI cJ cZ cMic cSrc cSt cAI cAJ) ⟨va_cnB (host := "AcousticCamera") 0 hts (gaC qA_512) rfl rfl rfl (hxs.2.2.2.2.2 _ (List.mem_of_getElem? (i := 7) rfl)) (hts _ (.tail _ qA_27)) (by decide +kernel) ⟨Nat.le_of_ble_eq_true rfl, Nat.le_of_ble_eq_true rfl⟩, rfl, hts _ (.tail _ qA_582)⟩ (cat_hi (Nat.le_refl _)) (cat_hi (Nat.le_refl _)) hl.1 (lv_room (Nat.le_of_ble_eq_true rfl)) dX11_init_86 ⟨Nat.le_of_ble_eq_true rfl, Nat.le_of_ble_eq_true rfl⟩ (fun b37 T38 H locs hb39 hT40 G => ?_)
  subst hb39
  rw [cat_cat, cat_cat] at G
  have G : cG D (cat 106 ad b37) 127 A s.heap H locs (cat 106 S T38) := G
  have h0 : cat 106 S T38 0 = .inr (11, [.ref (b2 0), .ref (b7 0), .ref (b12 0), .ref (b17 0), .ref (b22 0), .ref (b27 0), .ref (b32 0), .null, .null, .null, .null, .null, .null, .null, .null, .null, .int 0, .int 0, .int 0]) := (cat_lo (by decide)).trans h0
  have a0 := (cat_lo (N := 106) (g := b37) (show 0 < 106 by decide)).trans a0
  have hBL := BL_push (b := b37) (T := T38) hBL (N := 106) (by decide +kernel) rfl hT40
  generalize cat 106 ad b37 = ad at G hBL h0 a0
  generalize cat 106 S T38 = S at G hBL h0
  refine n_putF E G 0 7 h (fs := [.ref (b2 0), .ref (b7 0), .ref (b12 0), .ref (b17 0), .ref (b22 0), .ref (b27 0), .ref (b32 0), .null, .null, .null, .null, .null, .null, .null, .null, .null, .int 0, .int 0, .int 0]) (fs1 := [.ref (b2 0), .ref (b7 0), .ref (b12 0), .ref (b17 0), .ref (b22 0), .ref (b27 0), .ref (b32 0), .ref (b37 0), .null, .null, .null, .null, .null, .null, .null, .null, .int 0, .int 0, .int 0]) (by decide) a0 h0 rfl (fun w h => .tail _ (iA_22 h)) tyX11 tyX11_ok nmX11 (by decide) (.tail _ qA_566) ⟨rfl, rfl, rfl⟩ hin rfl rfl rfl (Nat.le_of_ble_eq_true rfl) rfl dX11_init_89 (fun H locs G => ?_)
  have hBL := BL_put (q := 0) (e := .inr (11, [.ref (b2 0), .ref (b7 0), .ref (b12 0), .ref (b17 0), .ref (b22 0), .ref (b27 0), .ref (b32 0), .ref (b37 0), .null, .null, .null, .null, .null, .null, .null, .null, .int 0, .int 0, .int 0])) hBL (by decide +kernel)
  have h0 := va_up_self S 0 (.inr (11, [.ref (b2 0), .ref (b7 0), .ref (b12 0), .ref (b17 0), .ref (b22 0), .ref (b27 0), .ref (b32 0), .ref (b37 0), .null, .null, .null, .null, .null, .null, .null, .null, .int 0, .int 0, .int 0]) : va_E)
  generalize va_up S 0 (.inr (11, [.ref (b2 0), .ref (b7 0), .ref (b12 0), .ref (b17 0), .ref (b22 0), .ref (b27 0), .ref (b32 0), .ref (b37 0), .null, .null, .null, .null, .null, .null, .null, .null, .int 0, .int 0, .int 0])) = S at G hBL h0
  refine lv_aload_n hx hb dX11_init_92 rfl (lv_at hl 0 rfl) ?_
  refine lv_bipush (v := 6) hx hb dX11_init_93 (by decide) ?_
  refine n_newq E G hA 5 (C := "AcousticCamera$State") (K := 6) (.tail _ qA_563) hxs.2.2.1 rfl rfl rfl (by decide) (Nat.le_of_ble_eq_true rfl) (Nat.le_of_ble_eq_true rfl) dX11_init_95 (fun q41 H G => ?_)
  have h0 : cat 127 S (fun _ => .inl (cSt, 6, .inr (.inr (.inr (.inr (fun _ => none)))))) 0 = .inr (11, [.ref (b2 0), .ref (b7 0), .ref (b12 0), .ref (b17 0), .ref (b22 0), .ref (b27 0), .ref (b32 0), .ref (b37 0), .null, .null, .null, .null, .null, .null, .null, .null, .int 0, .int 0, .int 0]) := (cat_lo (by decide)).trans h0
  have a0 := (cat_lo (N := 127) (g := (fun _ => q41)) (show 0 < 127 by decide)).trans a0
  have hBL := BL_skip (g1 := (fun _ => q41)) (g2 := (fun _ => .inl (cSt, 6, .inr (.inr (.inr (.inr (fun _ => none))))))) hBL (N := 127) (by decide +kernel)
  have h127 : cat 127 S (fun _ => .inl (cSt, 6, .inr (.inr (.inr (.inr (fun _ => none)))))) 127 = .inl (cSt, 6, .inr (.inr (.inr (.inr (fun _ => none))))) := cat_hi (Nat.le_refl _)
  have a127 : cat 127 ad (fun _ => q41) 127 = q41 := cat_hi (Nat.le_refl _)
  generalize cat 127 ad (fun _ => q41) = ad at G hBL h0 a0 h127 a127
  generalize cat 127 S (fun _ => .inl (cSt, 6, .inr (.inr (.inr (.inr (fun _ => none)))))) = S at G hBL h0 h127
  refine n_putF E G 0 8 h (fs := [.ref (b2 0), .ref (b7 0), .ref (b12 0), .ref (b17 0), .ref (b22 0), .ref (b27 0), .ref (b32 0), .ref (b37 0), .null, .null, .null, .null, .null, .null, .null, .null, .int 0, .int 0, .int 0]) (fs1 := [.ref (b2 0), .ref (b7 0), .ref (b12 0), .ref (b17 0), .ref (b22 0), .ref (b27 0), .ref (b32 0), .ref (b37 0), .ref q41, .null, .null, .null, .null, .null, .null, .null, .int 0, .int 0, .int 0]) (by decide) a0 h0 rfl (fun w h => .tail _ (iA_22 h)) tyX11 tyX11_ok nmX11 (by decide) (.tail _ qA_567) ⟨rfl, rfl, rfl⟩ hin rfl rfl rfl (Nat.le_of_ble_eq_true rfl) rfl dX11_init_98 (fun H locs G => ?_)
  have hBL := BL_put (q := 0) (e := .inr (11, [.ref (b2 0), .ref (b7 0), .ref (b12 0), .ref (b17 0), .ref (b22 0), .ref (b27 0), .ref (b32 0), .ref (b37 0), .ref q41, .null, .null, .null, .null, .null, .null, .null, .int 0, .int 0, .int 0])) hBL (by decide +kernel)
  have h127 := (va_up_ne S (.inr (11, [.ref (b2 0), .ref (b7 0), .ref (b12 0), .ref (b17 0), .ref (b22 0), .ref (b27 0), .ref (b32 0), .ref (b37 0), .ref q41, .null, .null, .null, .null, .null, .null, .null, .int 0, .int 0, .int 0]) : va_E) (show 127 ≠ 0 by decide)).trans h127
  have h0 := va_up_self S 0 (.inr (11, [.ref (b2 0), .ref (b7 0), .ref (b12 0), .ref (b17 0), .ref (b22 0), .ref (b27 0), .ref (b32 0), .ref (b37 0), .ref q41, .null, .null, .null, .null, .null, .null, .null, .int 0, .int 0, .int 0]) : va_E)
  generalize va_up S 0 (.inr (11, [.ref (b2 0), .ref (b7 0), .ref (b12 0), .ref (b17 0), .ref (b22 0), .ref (b27 0), .ref (b32 0), .ref (b37 0), .ref q41, .null, .null, .null, .null, .null, .null, .null, .int 0, .int 0, .int 0])) = S at G hBL h0 h127
  refine lv_aload_n hx hb dX11_init_101 rfl (lv_at hl 0 rfl) ?_
  refine lv_iconst (v := 2) hx hb dX11_init_102 (by decide) ?_
  refine n_newq E G hA 5 (C := "AcousticCamera$State") (K := 2) (.tail _ qA_563) hxs.2.2.1 rfl rfl rfl (by decide) (Nat.le_of_ble_eq_true rfl) (Nat.le_of_ble_eq_true rfl) dX11_init_103 (fun q42 H G => ?_)
  have h0 : cat 128 S (fun _ => .inl (cSt, 2, .inr (.inr (.inr (.inr (fun _ => none)))))) 0 = .inr (11, [.ref (b2 0), .ref (b7 0), .ref (b12 0), .ref (b17 0), .ref (b22 0), .ref (b27 0), .ref (b32 0), .ref (b37 0), .ref q41, .null, .null, .null, .null, .null, .null, .null, .int 0, .int 0, .int 0]) := (cat_lo (by decide)).trans h0
  have a0 := (cat_lo (N := 128) (g := (fun _ => q42)) (show 0 < 128 by decide)).trans a0
  have h127 : cat 128 S (fun _ => .inl (cSt, 2, .inr (.inr (.inr (.inr (fun _ => none)))))) 127 = .inl (cSt, 6, .inr (.inr (.inr (.inr (fun _ => none))))) := (cat_lo (by decide)).trans h127
  have a127 := (cat_lo (N := 128) (g := (fun _ => q42)) (show 127 < 128 by decide)).trans a127
  have hBL := BL_skip (g1 := (fun _ => q42)) (g2 := (fun _ => .inl (cSt, 2, .inr (.inr (.inr (.inr (fun _ => none))))))) hBL (N := 128) (by decide +kernel)
  have h128 : cat 128 S (fun _ => .inl (cSt, 2, .inr (.inr (.inr (.inr (fun _ => none)))))) 128 = .inl (cSt, 2, .inr (.inr (.inr (.inr (fun _ => none))))) := cat_hi (Nat.le_refl _)
  have a128 : cat 128 ad (fun _ => q42) 128 = q42 := cat_hi (Nat.le_refl _)
  generalize cat 128 ad (fun _ => q42) = ad at G hBL h0 a0 h127 a127 h128 a128
  generalize cat 128 S (fun _ => .inl (cSt, 2, .inr (.inr (.inr (.inr (fun _ => none)))))) = S at G hBL h0 h127 h128
  refine n_putF E G 0 9 h (fs := [.ref (b2 0), .ref (b7 0), .ref (b12 0), .ref (b17 0), .ref (b22 0), .ref (b27 0), .ref (b32 0), .ref (b37 0), .ref q41, .null, .null, .null, .null, .null, .null, .null, .int 0, .int 0, .int 0]) (fs1 := [.ref (b2 0), .ref (b7 0), .ref (b12 0), .ref (b17 0), .ref (b22 0), .ref (b27 0), .ref (b32 0), .ref (b37 0), .ref q41, .ref q42, .null, .null, .null, .null, .null, .null, .int 0, .int 0, .int 0]) (by decide) a0 h0 rfl (fun w h => .tail _ (iA_22 h)) tyX11 tyX11_ok nmX11 (by decide) (.tail _ qA_568) ⟨rfl, rfl, rfl⟩ hin rfl rfl rfl (Nat.le_of_ble_eq_true rfl) rfl dX11_init_106 (fun H locs G => ?_)
  have hBL := BL_put (q := 0) (e := .inr (11, [.ref (b2 0), .ref (b7 0), .ref (b12 0), .ref (b17 0), .ref (b22 0), .ref (b27 0), .ref (b32 0), .ref (b37 0), .ref q41, .ref q42, .null, .null, .null, .null, .null, .null, .int 0, .int 0, .int 0])) hBL (by decide +kernel)
  have h127 := (va_up_ne S (.inr (11, [.ref (b2 0), .ref (b7 0), .ref (b12 0), .ref (b17 0), .ref (b22 0), .ref (b27 0), .ref (b32 0), .ref (b37 0), .ref q41, .ref q42, .null, .null, .null, .null, .null, .null, .int 0, .int 0, .int 0]) : va_E) (show 127 ≠ 0 by decide)).trans h127
  have h128 := (va_up_ne S (.inr (11, [.ref (b2 0), .ref (b7 0), .ref (b12 0), .ref (b17 0), .ref (b22 0), .ref (b27 0), .ref (b32 0), .ref (b37 0), .ref q41, .ref q42, .null, .null, .null, .null, .null, .null, .int 0, .int 0, .int 0]) : va_E) (show 128 ≠ 0 by decide)).trans h128
  have h0 := va_up_self S 0 (.inr (11, [.ref (b2 0), .ref (b7 0), .ref (b12 0), .ref (b17 0), .ref (b22 0), .ref (b27 0), .ref (b32 0), .ref (b37 0), .ref q41, .ref q42, .null, .null, .null, .null, .null, .null, .int 0, .int 0, .int 0]) : va_E)
  generalize va_up S 0 (.inr (11, [.ref (b2 0), .ref (b7 0), .ref (b12 0), .ref (b17 0), .ref (b22 0), .ref (b27 0), .ref (b32 0), .ref (b37 0), .ref q41, .ref q42, .null, .null, .null, .null, .null, .null, .int 0, .int 0, .int 0])) = S at G hBL h0 h127 h128
  refine lv_aload_n hx hb dX11_init_109 rfl (lv_at hl 0 rfl) ?_
  refine lv_iconst (v := 2) hx hb dX11_init_110 (by decide) ?_
  refine n_newz E G hA 2 (K := 2) (.tail _ qA_514) rfl rfl (by decide) (Nat.le_of_ble_eq_true rfl) (Nat.le_of_ble_eq_true rfl) dX11_init_111 (fun q43 H G => ?_)
  have h0 : cat 129 S (fun _ => .inl (cZ, 2, .inl (fun _ => 0))) 0 = .inr (11, [.ref (b2 0), .ref (b7 0), .ref (b12 0), .ref (b17 0), .ref (b22 0), .ref (b27 0), .ref (b32 0), .ref (b37 0), .ref q41, .ref q42, .null, .null, .null, .null, .null, .null, .int 0, .int 0, .int 0]) := (cat_lo (by decide)).trans h0
  have a0 := (cat_lo (N := 129) (g := (fun _ => q43)) (show 0 < 129 by decide)).trans a0
  have h127 : cat 129 S (fun _ => .inl (cZ, 2, .inl (fun _ => 0))) 127 = .inl (cSt, 6, .inr (.inr (.inr (.inr (fun _ => none))))) := (cat_lo (by decide)).trans h127
  have a127 := (cat_lo (N := 129) (g := (fun _ => q43)) (show 127 < 129 by decide)).trans a127
  have h128 : cat 129 S (fun _ => .inl (cZ, 2, .inl (fun _ => 0))) 128 = .inl (cSt, 2, .inr (.inr (.inr (.inr (fun _ => none))))) := (cat_lo (by decide)).trans h128
  have a128 := (cat_lo (N := 129) (g := (fun _ => q43)) (show 128 < 129 by decide)).trans a128
  have hBL := BL_push (b := (fun _ => q43)) (T := (fun _ => .inl (cZ, 2, .inl (fun _ => 0)))) hBL (N := 129) (by decide +kernel) rfl (fun _ _ => rfl)
  generalize cat 129 ad (fun _ => q43) = ad at G hBL h0 a0 h127 a127 h128 a128
  generalize cat 129 S (fun _ => .inl (cZ, 2, .inl (fun _ => 0))) = S at G hBL h0 h127 h128
  refine n_putF E G 0 10 h (fs := [.ref (b2 0), .ref (b7 0), .ref (b12 0), .ref (b17 0), .ref (b22 0), .ref (b27 0), .ref (b32 0), .ref (b37 0), .ref q41, .ref q42, .null, .null, .null, .null, .null, .null, .int 0, .int 0, .int 0]) (fs1 := [.ref (b2 0), .ref (b7 0), .ref (b12 0), .ref (b17 0), .ref (b22 0), .ref (b27 0), .ref (b32 0), .ref (b37 0), .ref q41, .ref q42, .ref q43, .null, .null, .null, .null, .null, .int 0, .int 0, .int 0]) (by decide) a0 h0 rfl (fun w h => .tail _ (iA_22 h)) tyX11 tyX11_ok nmX11 (by decide) (.tail _ qA_569) ⟨rfl, rfl, rfl⟩ hin rfl rfl rfl (Nat.le_of_ble_eq_true rfl) rfl dX11_init_113 (fun H locs G => ?_)
  have hBL := BL_put (q := 0) (e := .inr (11, [.ref (b2 0), .ref (b7 0), .ref (b12 0), .ref (b17 0), .ref (b22 0), .ref (b27 0), .ref (b32 0), .ref (b37 0), .ref q41, .ref q42, .ref q43, .null, .null, .null, .null, .null, .int 0, .int 0, .int 0])) hBL (by decide +kernel)
  have h127 := (va_up_ne S (.inr (11, [.ref (b2 0), .ref (b7 0), .ref (b12 0), .ref (b17 0), .ref (b22 0), .ref (b27 0), .ref (b32 0), .ref (b37 0), .ref q41, .ref q42, .ref q43, .null, .null, .null, .null, .null, .int 0, .int 0, .int 0]) : va_E) (show 127 ≠ 0 by decide)).trans h127
  have h128 := (va_up_ne S (.inr (11, [.ref (b2 0), .ref (b7 0), .ref (b12 0), .ref (b17 0), .ref (b22 0), .ref (b27 0), .ref (b32 0), .ref (b37 0), .ref q41, .ref q42, .ref q43, .null, .null, .null, .null, .null, .int 0, .int 0, .int 0]) : va_E) (show 128 ≠ 0 by decide)).trans h128
  have h0 := va_up_self S 0 (.inr (11, [.ref (b2 0), .ref (b7 0), .ref (b12 0), .ref (b17 0), .ref (b22 0), .ref (b27 0), .ref (b32 0), .ref (b37 0), .ref q41, .ref q42, .ref q43, .null, .null, .null, .null, .null, .int 0, .int 0, .int 0]) : va_E)
  generalize va_up S 0 (.inr (11, [.ref (b2 0), .ref (b7 0), .ref (b12 0), .ref (b17 0), .ref (b22 0), .ref (b27 0), .ref (b32 0), .ref (b37 0), .ref q41, .ref q42, .ref q43, .null, .null, .null, .null, .null, .int 0, .int 0, .int 0])) = S at G hBL h0 h127 h128
  refine lv_aload_n hx hb dX11_init_116 rfl (lv_at hl 0 rfl) ?_
  refine lv_bipush (v := 12) hx hb dX11_init_117 (by decide) ?_
  refine n_newi E G hA 0 (K := 12) (.tail _ qA_95) rfl rfl (by decide) (Nat.le_of_ble_eq_true rfl) (Nat.le_of_ble_eq_true rfl) dX11_init_119 (fun q44 H G => ?_)
  have h0 : cat 130 S (fun _ => .inl (cI, 12, .inl (fun _ => 0))) 0 = .inr (11, [.ref (b2 0), .ref (b7 0), .ref (b12 0), .ref (b17 0), .ref (b22 0), .ref (b27 0), .ref (b32 0), .ref (b37 0), .ref q41, .ref q42, .ref q43, .null, .null, .null, .null, .null, .int 0, .int 0, .int 0]) := (cat_lo (by decide)).trans h0
  have a0 := (cat_lo (N := 130) (g := (fun _ => q44)) (show 0 < 130 by decide)).trans a0
  have h127 : cat 130 S (fun _ => .inl (cI, 12, .inl (fun _ => 0))) 127 = .inl (cSt, 6, .inr (.inr (.inr (.inr (fun _ => none))))) := (cat_lo (by decide)).trans h127
  have a127 := (cat_lo (N := 130) (g := (fun _ => q44)) (show 127 < 130 by decide)).trans a127
  have h128 : cat 130 S (fun _ => .inl (cI, 12, .inl (fun _ => 0))) 128 = .inl (cSt, 2, .inr (.inr (.inr (.inr (fun _ => none))))) := (cat_lo (by decide)).trans h128
  have a128 := (cat_lo (N := 130) (g := (fun _ => q44)) (show 128 < 130 by decide)).trans a128
  have hBL := BL_push (b := (fun _ => q44)) (T := (fun _ => .inl (cI, 12, .inl (fun _ => 0)))) hBL (N := 130) (by decide +kernel) rfl (fun _ _ => rfl)
  generalize cat 130 ad (fun _ => q44) = ad at G hBL h0 a0 h127 a127 h128 a128
  generalize cat 130 S (fun _ => .inl (cI, 12, .inl (fun _ => 0))) = S at G hBL h0 h127 h128
  refine n_putF E G 0 11 h (fs := [.ref (b2 0), .ref (b7 0), .ref (b12 0), .ref (b17 0), .ref (b22 0), .ref (b27 0), .ref (b32 0), .ref (b37 0), .ref q41, .ref q42, .ref q43, .null, .null, .null, .null, .null, .int 0, .int 0, .int 0]) (fs1 := [.ref (b2 0), .ref (b7 0), .ref (b12 0), .ref (b17 0), .ref (b22 0), .ref (b27 0), .ref (b32 0), .ref (b37 0), .ref q41, .ref q42, .ref q43, .ref q44, .null, .null, .null, .null, .int 0, .int 0, .int 0]) (by decide) a0 h0 rfl (fun w h => .tail _ (iA_22 h)) tyX11 tyX11_ok nmX11 (by decide) (.tail _ qA_570) ⟨rfl, rfl, rfl⟩ hin rfl rfl rfl (Nat.le_of_ble_eq_true rfl) rfl dX11_init_121 (fun H locs G => ?_)
  have hBL := BL_put (q := 0) (e := .inr (11, [.ref (b2 0), .ref (b7 0), .ref (b12 0), .ref (b17 0), .ref (b22 0), .ref (b27 0), .ref (b32 0), .ref (b37 0), .ref q41, .ref q42, .ref q43, .ref q44, .null, .null, .null, .null, .int 0, .int 0, .int 0])) hBL (by decide +kernel)
  have h127 := (va_up_ne S (.inr (11, [.ref (b2 0), .ref (b7 0), .ref (b12 0), .ref (b17 0), .ref (b22 0), .ref (b27 0), .ref (b32 0), .ref (b37 0), .ref q41, .ref q42, .ref q43, .ref q44, .null, .null, .null, .null, .int 0, .int 0, .int 0]) : va_E) (show 127 ≠ 0 by decide)).trans h127
  have h128 := (va_up_ne S (.inr (11, [.ref (b2 0), .ref (b7 0), .ref (b12 0), .ref (b17 0), .ref (b22 0), .ref (b27 0), .ref (b32 0), .ref (b37 0), .ref q41, .ref q42, .ref q43, .ref q44, .null, .null, .null, .null, .int 0, .int 0, .int 0]) : va_E) (show 128 ≠ 0 by decide)).trans h128
  have h0 := va_up_self S 0 (.inr (11, [.ref (b2 0), .ref (b7 0), .ref (b12 0), .ref (b17 0), .ref (b22 0), .ref (b27 0), .ref (b32 0), .ref (b37 0), .ref q41, .ref q42, .ref q43, .ref q44, .null, .null, .null, .null, .int 0, .int 0, .int 0]) : va_E)
  generalize va_up S 0 (.inr (11, [.ref (b2 0), .ref (b7 0), .ref (b12 0), .ref (b17 0), .ref (b22 0), .ref (b27 0), .ref (b32 0), .ref (b37 0), .ref q41, .ref q42, .ref q43, .ref q44, .null, .null, .null, .null, .int 0, .int 0, .int 0])) = S at G hBL h0 h127 h128
  refine lv_aload_n hx hb dX11_init_124 rfl (lv_at hl 0 rfl) ?_
  refine lv_bipush (v := 12) hx hb dX11_init_125 (by decide) ?_
  refine n_newl E G hA 1 (K := 12) (.tail _ qA_5) rfl rfl (by decide) (Nat.le_of_ble_eq_true rfl) (Nat.le_of_ble_eq_true rfl) dX11_init_127 (fun q45 H G => ?_)
  have h0 : cat 131 S (fun _ => .inl (cJ, 12, .inr (.inl (fun _ => 0)))) 0 = .inr (11, [.ref (b2 0), .ref (b7 0), .ref (b12 0), .ref (b17 0), .ref (b22 0), .ref (b27 0), .ref (b32 0), .ref (b37 0), .ref q41, .ref q42, .ref q43, .ref q44, .null, .null, .null, .null, .int 0, .int 0, .int 0]) := (cat_lo (by decide)).trans h0
  have a0 := (cat_lo (N := 131) (g := (fun _ => q45)) (show 0 < 131 by decide)).trans a0
  have h127 : cat 131 S (fun _ => .inl (cJ, 12, .inr (.inl (fun _ => 0)))) 127 = .inl (cSt, 6, .inr (.inr (.inr (.inr (fun _ => none))))) := (cat_lo (by decide)).trans h127
  have a127 := (cat_lo (N := 131) (g := (fun _ => q45)) (show 127 < 131 by decide)).trans a127
  have h128 : cat 131 S (fun _ => .inl (cJ, 12, .inr (.inl (fun _ => 0)))) 128 = .inl (cSt, 2, .inr (.inr (.inr (.inr (fun _ => none))))) := (cat_lo (by decide)).trans h128
  have a128 := (cat_lo (N := 131) (g := (fun _ => q45)) (show 128 < 131 by decide)).trans a128
  have hBL := BL_push (b := (fun _ => q45)) (T := (fun _ => .inl (cJ, 12, .inr (.inl (fun _ => 0))))) hBL (N := 131) (by decide +kernel) rfl (fun _ _ => rfl)
  generalize cat 131 ad (fun _ => q45) = ad at G hBL h0 a0 h127 a127 h128 a128
  generalize cat 131 S (fun _ => .inl (cJ, 12, .inr (.inl (fun _ => 0)))) = S at G hBL h0 h127 h128
  refine n_putF E G 0 12 h (fs := [.ref (b2 0), .ref (b7 0), .ref (b12 0), .ref (b17 0), .ref (b22 0), .ref (b27 0), .ref (b32 0), .ref (b37 0), .ref q41, .ref q42, .ref q43, .ref q44, .null, .null, .null, .null, .int 0, .int 0, .int 0]) (fs1 := [.ref (b2 0), .ref (b7 0), .ref (b12 0), .ref (b17 0), .ref (b22 0), .ref (b27 0), .ref (b32 0), .ref (b37 0), .ref q41, .ref q42, .ref q43, .ref q44, .ref q45, .null, .null, .null, .int 0, .int 0, .int 0]) (by decide) a0 h0 rfl (fun w h => .tail _ (iA_22 h)) tyX11 tyX11_ok nmX11 (by decide) (.tail _ qA_571) ⟨rfl, rfl, rfl⟩ hin rfl rfl rfl (Nat.le_of_ble_eq_true rfl) rfl dX11_init_129 (fun H locs G => ?_)
  have hBL := BL_put (q := 0) (e := .inr (11, [.ref (b2 0), .ref (b7 0), .ref (b12 0), .ref (b17 0), .ref (b22 0), .ref (b27 0), .ref (b32 0), .ref (b37 0), .ref q41, .ref q42, .ref q43, .ref q44, .ref q45, .null, .null, .null, .int 0, .int 0, .int 0])) hBL (by decide +kernel)
  have h127 := (va_up_ne S (.inr (11, [.ref (b2 0), .ref (b7 0), .ref (b12 0), .ref (b17 0), .ref (b22 0), .ref (b27 0), .ref (b32 0), .ref (b37 0), .ref q41, .ref q42, .ref q43, .ref q44, .ref q45, .null, .null, .null, .int 0, .int 0, .int 0]) : va_E) (show 127 ≠ 0 by decide)).trans h127
  have h128 := (va_up_ne S (.inr (11, [.ref (b2 0), .ref (b7 0), .ref (b12 0), .ref (b17 0), .ref (b22 0), .ref (b27 0), .ref (b32 0), .ref (b37 0), .ref q41, .ref q42, .ref q43, .ref q44, .ref q45, .null, .null, .null, .int 0, .int 0, .int 0]) : va_E) (show 128 ≠ 0 by decide)).trans h128
  have h0 := va_up_self S 0 (.inr (11, [.ref (b2 0), .ref (b7 0), .ref (b12 0), .ref (b17 0), .ref (b22 0), .ref (b27 0), .ref (b32 0), .ref (b37 0), .ref q41, .ref q42, .ref q43, .ref q44, .ref q45, .null, .null, .null, .int 0, .int 0, .int 0]) : va_E)
  generalize va_up S 0 (.inr (11, [.ref (b2 0), .ref (b7 0), .ref (b12 0), .ref (b17 0), .ref (b22 0), .ref (b27 0), .ref (b32 0), .ref (b37 0), .ref q41, .ref q42, .ref q43, .ref q44, .ref q45, .null, .null, .null, .int 0, .int 0, .int 0])) = S at G hBL h0 h127 h128
  refine lv_aload_n hx hb dX11_init_132 rfl (lv_at hl 0 rfl) ?_
  refine lv_sipush (v := 155) hx hb dX11_init_133 (by decide) ?_
  refine n_newi E G hA 0 (K := 155) (.tail _ qA_95) rfl rfl (by decide) (Nat.le_of_ble_eq_true rfl) (Nat.le_of_ble_eq_true rfl) dX11_init_136 (fun q46 H G => ?_)
  have h0 : cat 132 S (fun _ => .inl (cI, 155, .inl (fun _ => 0))) 0 = .inr (11, [.ref (b2 0), .ref (b7 0), .ref (b12 0), .ref (b17 0), .ref (b22 0), .ref (b27 0), .ref (b32 0), .ref (b37 0), .ref q41, .ref q42, .ref q43, .ref q44, .ref q45, .null, .null, .null, .int 0, .int 0, .int 0]) := (cat_lo (by decide)).trans h0
  have a0 := (cat_lo (N := 132) (g := (fun _ => q46)) (show 0 < 132 by decide)).trans a0
  have h127 : cat 132 S (fun _ => .inl (cI, 155, .inl (fun _ => 0))) 127 = .inl (cSt, 6, .inr (.inr (.inr (.inr (fun _ => none))))) := (cat_lo (by decide)).trans h127
  have a127 := (cat_lo (N := 132) (g := (fun _ => q46)) (show 127 < 132 by decide)).trans a127
  have h128 : cat 132 S (fun _ => .inl (cI, 155, .inl (fun _ => 0))) 128 = .inl (cSt, 2, .inr (.inr (.inr (.inr (fun _ => none))))) := (cat_lo (by decide)).trans h128
  have a128 := (cat_lo (N := 132) (g := (fun _ => q46)) (show 128 < 132 by decide)).trans a128
  have hBL := BL_push (b := (fun _ => q46)) (T := (fun _ => .inl (cI, 155, .inl (fun _ => 0)))) hBL (N := 132) (by decide +kernel) rfl (fun _ _ => rfl)
  generalize cat 132 ad (fun _ => q46) = ad at G hBL h0 a0 h127 a127 h128 a128
  generalize cat 132 S (fun _ => .inl (cI, 155, .inl (fun _ => 0))) = S at G hBL h0 h127 h128
  refine n_putF E G 0 13 h (fs := [.ref (b2 0), .ref (b7 0), .ref (b12 0), .ref (b17 0), .ref (b22 0), .ref (b27 0), .ref (b32 0), .ref (b37 0), .ref q41, .ref q42, .ref q43, .ref q44, .ref q45, .null, .null, .null, .int 0, .int 0, .int 0]) (fs1 := [.ref (b2 0), .ref (b7 0), .ref (b12 0), .ref (b17 0), .ref (b22 0), .ref (b27 0), .ref (b32 0), .ref (b37 0), .ref q41, .ref q42, .ref q43, .ref q44, .ref q45, .ref q46, .null, .null, .int 0, .int 0, .int 0]) (by decide) a0 h0 rfl (fun w h => .tail _ (iA_22 h)) tyX11 tyX11_ok nmX11 (by decide) (.tail _ qA_572) ⟨rfl, rfl, rfl⟩ hin rfl rfl rfl (Nat.le_of_ble_eq_true rfl) rfl dX11_init_138 (fun H locs G => ?_)
  have hBL := BL_put (q := 0) (e := .inr (11, [.ref (b2 0), .ref (b7 0), .ref (b12 0), .ref (b17 0), .ref (b22 0), .ref (b27 0), .ref (b32 0), .ref (b37 0), .ref q41, .ref q42, .ref q43, .ref q44, .ref q45, .ref q46, .null, .null, .int 0, .int 0, .int 0])) hBL (by decide +kernel)
  have h127 := (va_up_ne S (.inr (11, [.ref (b2 0), .ref (b7 0), .ref (b12 0), .ref (b17 0), .ref (b22 0), .ref (b27 0), .ref (b32 0), .ref (b37 0), .ref q41, .ref q42, .ref q43, .ref q44, .ref q45, .ref q46, .null, .null, .int 0, .int 0, .int 0]) : va_E) (show 127 ≠ 0 by decide)).trans h127
  have h128 := (va_up_ne S (.inr (11, [.ref (b2 0), .ref (b7 0), .ref (b12 0), .ref (b17 0), .ref (b22 0), .ref (b27 0), .ref (b32 0), .ref (b37 0), .ref q41, .ref q42, .ref q43, .ref q44, .ref q45, .ref q46, .null, .null, .int 0, .int 0, .int 0]) : va_E) (show 128 ≠ 0 by decide)).trans h128
  have h0 := va_up_self S 0 (.inr (11, [.ref (b2 0), .ref (b7 0), .ref (b12 0), .ref (b17 0), .ref (b22 0), .ref (b27 0), .ref (b32 0), .ref (b37 0), .ref q41, .ref q42, .ref q43, .ref q44, .ref q45, .ref q46, .null, .null, .int 0, .int 0, .int 0]) : va_E)
  generalize va_up S 0 (.inr (11, [.ref (b2 0), .ref (b7 0), .ref (b12 0), .ref (b17 0), .ref (b22 0), .ref (b27 0), .ref (b32 0), .ref (b37 0), .ref q41, .ref q42, .ref q43, .ref q44, .ref q45, .ref q46, .null, .null, .int 0, .int 0, .int 0])) = S at G hBL h0 h127 h128
  refine lv_aload_n hx hb dX11_init_141 rfl (lv_at hl 0 rfl) ?_
  refine n_new E G hA (ci := 7) (fs := [.int 0, .int 0, .int 0, .int 0, .null, .int 0, .null, .null, .int 0, .null, .null, .int 0, .int 0, .null, .int 0, .null, .int 0, .null]) (fun w h => .tail _ (iA_12 h)) tyX7 tyX7_ok (.tail _ qA_573) (.tail _ qA_574) (.tail _ qA_158) rfl (by decide) (Nat.le_of_ble_eq_true rfl) (Nat.le_of_ble_eq_true rfl) dX11_init_142 (fun q47 H G => ?_)
  refine lv_dup hx hb dX11_init_145 rfl ?_
  refine n_init (N := 133) E G hA hxs nX.moved hml (n_X7 l D cI cJ cZ cMic cSrc cSt cAI cAJ) (cwI 0 hts (gaC qA_487) rfl rfl rfl (hts _ (.tail _ qA_158)) (hts _ (.tail _ qA_583)) (hts _ (.tail _ qA_584)) rfl (by decide +kernel) ⟨Nat.le_of_ble_eq_true rfl, Nat.le_of_ble_eq_true rfl⟩) (cat_hi (Nat.le_refl _)) (cat_hi (Nat.le_refl _)) hl.1 (lv_room (Nat.le_of_ble_eq_true rfl)) dX11_init_146 ⟨Nat.le_of_ble_eq_true rfl, Nat.le_of_ble_eq_true rfl⟩ (fun b48 T49 H locs hb50 hT51 G => ?_)
  subst hb50
  rw [cat_cat, cat_cat] at G
  have G : cG D (cat 133 ad b48) 311 A s.heap H locs (cat 133 S T49) := G
  have h0 : cat 133 S T49 0 = .inr (11, [.ref (b2 0), .ref (b7 0), .ref (b12 0), .ref (b17 0), .ref (b22 0), .ref (b27 0), .ref (b32 0), .ref (b37 0), .ref q41, .ref q42, .ref q43, .ref q44, .ref q45, .ref q46, .null, .null, .int 0, .int 0, .int 0]) := (cat_lo (by decide)).trans h0
  have a0 := (cat_lo (N := 133) (g := b48) (show 0 < 133 by decide)).trans a0
  have h127 : cat 133 S T49 127 = .inl (cSt, 6, .inr (.inr (.inr (.inr (fun _ => none))))) := (cat_lo (by decide)).trans h127
  have a127 := (cat_lo (N := 133) (g := b48) (show 127 < 133 by decide)).trans a127
  have h128 : cat 133 S T49 128 = .inl (cSt, 2, .inr (.inr (.inr (.inr (fun _ => none))))) := (cat_lo (by decide)).trans h128
  have a128 := (cat_lo (N := 133) (g := b48) (show 128 < 133 by decide)).trans a128
  have hBL := BL_push (b := b48) (T := T49) hBL (N := 133) (by decide +kernel) rfl hT51
  generalize cat 133 ad b48 = ad at G hBL h0 a0 h127 a127 h128 a128
  generalize cat 133 S T49 = S at G hBL h0 h127 h128
  refine n_put E G 0 14 h (fs := [.ref (b2 0), .ref (b7 0), .ref (b12 0), .ref (b17 0), .ref (b22 0), .ref (b27 0), .ref (b32 0), .ref (b37 0), .ref q41, .ref q42, .ref q43, .ref q44, .ref q45, .ref q46, .null, .null, .int 0, .int 0, .int 0]) (fs1 := [.ref (b2 0), .ref (b7 0), .ref (b12 0), .ref (b17 0), .ref (b22 0), .ref (b27 0), .ref (b32 0), .ref (b37 0), .ref q41, .ref q42, .ref q43, .ref q44, .ref q45, .ref q46, .ref (b48 0), .null, .int 0, .int 0, .int 0]) (by decide) a0 h0 rfl (fun w h => .tail _ (iA_22 h)) tyX11 tyX11_ok nmX11 (by decide) (.tail _ qA_575) ⟨rfl, rfl, rfl⟩ rfl rfl (Nat.le_of_ble_eq_true rfl) rfl dX11_init_149 (fun H locs G => ?_)
  have hBL := BL_put (q := 0) (e := .inr (11, [.ref (b2 0), .ref (b7 0), .ref (b12 0), .ref (b17 0), .ref (b22 0), .ref (b27 0), .ref (b32 0), .ref (b37 0), .ref q41, .ref q42, .ref q43, .ref q44, .ref q45, .ref q46, .ref (b48 0), .null, .int 0, .int 0, .int 0])) hBL (by decide +kernel)
  have h127 := (va_up_ne S (.inr (11, [.ref (b2 0), .ref (b7 0), .ref (b12 0), .ref (b17 0), .ref (b22 0), .ref (b27 0), .ref (b32 0), .ref (b37 0), .ref q41, .ref q42, .ref q43, .ref q44, .ref q45, .ref q46, .ref (b48 0), .null, .int 0, .int 0, .int 0]) : va_E) (show 127 ≠ 0 by decide)).trans h127
  have h128 := (va_up_ne S (.inr (11, [.ref (b2 0), .ref (b7 0), .ref (b12 0), .ref (b17 0), .ref (b22 0), .ref (b27 0), .ref (b32 0), .ref (b37 0), .ref q41, .ref q42, .ref q43, .ref q44, .ref q45, .ref q46, .ref (b48 0), .null, .int 0, .int 0, .int 0]) : va_E) (show 128 ≠ 0 by decide)).trans h128
  have h0 := va_up_self S 0 (.inr (11, [.ref (b2 0), .ref (b7 0), .ref (b12 0), .ref (b17 0), .ref (b22 0), .ref (b27 0), .ref (b32 0), .ref (b37 0), .ref q41, .ref q42, .ref q43, .ref q44, .ref q45, .ref q46, .ref (b48 0), .null, .int 0, .int 0, .int 0]) : va_E)
  generalize va_up S 0 (.inr (11, [.ref (b2 0), .ref (b7 0), .ref (b12 0), .ref (b17 0), .ref (b22 0), .ref (b27 0), .ref (b32 0), .ref (b37 0), .ref q41, .ref q42, .ref q43, .ref q44, .ref q45, .ref q46, .ref (b48 0), .null, .int 0, .int 0, .int 0])) = S at G hBL h0 h127 h128
  refine lv_aload_n hx hb dX11_init_152 rfl (lv_at hl 0 rfl) ?_
  refine n_new E G hA (ci := 7) (fs := [.int 0, .int 0, .int 0, .int 0, .null, .int 0, .null, .null, .int 0, .null, .null, .int 0, .int 0, .null, .int 0, .null, .int 0, .null]) (fun w h => .tail _ (iA_12 h)) tyX7 tyX7_ok (.tail _ qA_573) (.tail _ qA_574) (.tail _ qA_158) rfl (by decide) (Nat.le_of_ble_eq_true rfl) (Nat.le_of_ble_eq_true rfl) dX11_init_153 (fun q52 H G => ?_)
  refine lv_dup hx hb dX11_init_156 rfl ?_
  refine n_init (N := 311) E G hA hxs nX.moved hml (n_X7 l D cI cJ cZ cMic cSrc cSt cAI cAJ) (cwI 0 hts (gaC qA_487) rfl rfl rfl (hts _ (.tail _ qA_158)) (hts _ (.tail _ qA_583)) (hts _ (.tail _ qA_584)) rfl (by decide +kernel) ⟨Nat.le_of_ble_eq_true rfl, Nat.le_of_ble_eq_true rfl⟩) (cat_hi (Nat.le_refl _)) (cat_hi (Nat.le_refl _)) hl.1 (lv_room (Nat.le_of_ble_eq_true rfl)) dX11_init_157 ⟨Nat.le_of_ble_eq_true rfl, Nat.le_of_ble_eq_true rfl⟩ (fun b53 T54 H locs hb55 hT56 G => ?_)
  subst hb55
  rw [cat_cat, cat_cat] at G
  have G : cG D (cat 311 ad b53) 489 A s.heap H locs (cat 311 S T54) := G
  have h0 : cat 311 S T54 0 = .inr (11, [.ref (b2 0), .ref (b7 0), .ref (b12 0), .ref (b17 0), .ref (b22 0), .ref (b27 0), .ref (b32 0), .ref (b37 0), .ref q41, .ref q42, .ref q43, .ref q44, .ref q45, .ref q46, .ref (b48 0), .null, .int 0, .int 0, .int 0]) := (cat_lo (by decide)).trans h0
  have a0 := (cat_lo (N := 311) (g := b53) (show 0 < 311 by decide)).trans a0
  have h127 : cat 311 S T54 127 = .inl (cSt, 6, .inr (.inr (.inr (.inr (fun _ => none))))) := (cat_lo (by decide)).trans h127
  have a127 := (cat_lo (N := 311) (g := b53) (show 127 < 311 by decide)).trans a127
  have h128 : cat 311 S T54 128 = .inl (cSt, 2, .inr (.inr (.inr (.inr (fun _ => none))))) := (cat_lo (by decide)).trans h128
  have a128 := (cat_lo (N := 311) (g := b53) (show 128 < 311 by decide)).trans a128
  have hBL := BL_push (b := b53) (T := T54) hBL (N := 311) (by decide +kernel) rfl hT56
  generalize cat 311 ad b53 = ad at G hBL h0 a0 h127 a127 h128 a128
  generalize cat 311 S T54 = S at G hBL h0 h127 h128
  refine n_put E G 0 15 h (fs := [.ref (b2 0), .ref (b7 0), .ref (b12 0), .ref (b17 0), .ref (b22 0), .ref (b27 0), .ref (b32 0), .ref (b37 0), .ref q41, .ref q42, .ref q43, .ref q44, .ref q45, .ref q46, .ref (b48 0), .null, .int 0, .int 0, .int 0]) (fs1 := [.ref (b2 0), .ref (b7 0), .ref (b12 0), .ref (b17 0), .ref (b22 0), .ref (b27 0), .ref (b32 0), .ref (b37 0), .ref q41, .ref q42, .ref q43, .ref q44, .ref q45, .ref q46, .ref (b48 0), .ref (b53 0), .int 0, .int 0, .int 0]) (by decide) a0 h0 rfl (fun w h => .tail _ (iA_22 h)) tyX11 tyX11_ok nmX11 (by decide) (.tail _ qA_576) ⟨rfl, rfl, rfl⟩ rfl rfl (Nat.le_of_ble_eq_true rfl) rfl dX11_init_160 (fun H locs G => ?_)
  have hBL := BL_put (q := 0) (e := .inr (11, [.ref (b2 0), .ref (b7 0), .ref (b12 0), .ref (b17 0), .ref (b22 0), .ref (b27 0), .ref (b32 0), .ref (b37 0), .ref q41, .ref q42, .ref q43, .ref q44, .ref q45, .ref q46, .ref (b48 0), .ref (b53 0), .int 0, .int 0, .int 0])) hBL (by decide +kernel)
  have h127 := (va_up_ne S (.inr (11, [.ref (b2 0), .ref (b7 0), .ref (b12 0), .ref (b17 0), .ref (b22 0), .ref (b27 0), .ref (b32 0), .ref (b37 0), .ref q41, .ref q42, .ref q43, .ref q44, .ref q45, .ref q46, .ref (b48 0), .ref (b53 0), .int 0, .int 0, .int 0]) : va_E) (show 127 ≠ 0 by decide)).trans h127
  have h128 := (va_up_ne S (.inr (11, [.ref (b2 0), .ref (b7 0), .ref (b12 0), .ref (b17 0), .ref (b22 0), .ref (b27 0), .ref (b32 0), .ref (b37 0), .ref q41, .ref q42, .ref q43, .ref q44, .ref q45, .ref q46, .ref (b48 0), .ref (b53 0), .int 0, .int 0, .int 0]) : va_E) (show 128 ≠ 0 by decide)).trans h128
  have h0 := va_up_self S 0 (.inr (11, [.ref (b2 0), .ref (b7 0), .ref (b12 0), .ref (b17 0), .ref (b22 0), .ref (b27 0), .ref (b32 0), .ref (b37 0), .ref q41, .ref q42, .ref q43, .ref q44, .ref q45, .ref q46, .ref (b48 0), .ref (b53 0), .int 0, .int 0, .int 0]) : va_E)
  generalize va_up S 0 (.inr (11, [.ref (b2 0), .ref (b7 0), .ref (b12 0), .ref (b17 0), .ref (b22 0), .ref (b27 0), .ref (b32 0), .ref (b37 0), .ref q41, .ref q42, .ref q43, .ref q44, .ref q45, .ref q46, .ref (b48 0), .ref (b53 0), .int 0, .int 0, .int 0])) = S at G hBL h0 h127 h128
  refine lv_iconst (v := 0) hx hb dX11_init_163 (by decide) ?_
  refine lv_istore_n (lv' := [(1, .int 0), (0, .ref h)]) hx hb dX11_init_164 rfl hl (by decide) rfl (fun ls hl => ?_)
  refine lv_iload_n hx hb dX11_init_165 rfl (lv_at hl 0 rfl) ?_
  refine lv_bipush (v := 6) hx hb dX11_init_166 (by decide) ?_
  refine lv_icmp_ge (tgt := 190) hx hb dX11_init_168 (by decide) (fun c57 => absurd c57 (by decide +kernel)) (fun c57 => ?_)
  refine lv_aload_n hx hb dX11_init_171 rfl (lv_at hl 1 rfl) ?_
  refine n_getr E G 0 8 h (fs := [.ref (b2 0), .ref (b7 0), .ref (b12 0), .ref (b17 0), .ref (b22 0), .ref (b27 0), .ref (b32 0), .ref (b37 0), .ref q41, .ref q42, .ref q43, .ref q44, .ref q45, .ref q46, .ref (b48 0), .ref (b53 0), .int 0, .int 0, .int 0]) (by decide) a0 h0 rfl (fun w h => .tail _ (iA_22 h)) (by decide) (.tail _ qA_567) rfl rfl dX11_init_172 ?_
  refine lv_iload_n hx hb dX11_init_175 rfl (lv_at hl 0 rfl) ?_
  refine n_new E G hA (ci := 9) (fs := [.int 0, .int 0, .int 0, .null, .null, .null, .null, .null, .null, .null, .null]) (fun w h => .tail _ (iA_14 h)) tyX9 tyX9_ok (.tail _ qA_563) (.tail _ qA_564) (.tail _ qA_27) rfl (by decide) (Nat.le_of_ble_eq_true rfl) (Nat.le_of_ble_eq_true rfl) dX11_init_176 (fun q58 H G => ?_)
  refine lv_dup hx hb dX11_init_179 rfl ?_
  refine n_initN (N := 489) E G hA hxs nX.moved hml (n_X9 l D cI cJ cZ cMic cSrc cSt cAI cAJ) ⟨va_cnB (host := "AcousticCamera") 0 hts (gaC qA_512) rfl rfl rfl (hxs.2.2.2.2.2 _ (List.mem_of_getElem? (i := 7) rfl)) (hts _ (.tail _ qA_27)) (by decide +kernel) ⟨Nat.le_of_ble_eq_true rfl, Nat.le_of_ble_eq_true rfl⟩, rfl, hts _ (.tail _ qA_582)⟩ (cat_hi (Nat.le_refl _)) (cat_hi (Nat.le_refl _)) hl.1 (lv_room (Nat.le_of_ble_eq_true rfl)) dX11_init_180 ⟨Nat.le_of_ble_eq_true rfl, Nat.le_of_ble_eq_true rfl⟩ (fun b59 T60 H locs hb61 hT62 G => ?_)
  subst hb61
  rw [cat_cat, cat_cat] at G
  have G : cG D (cat 489 ad b59) 510 A s.heap H locs (cat 489 S T60) := G
  have h0 : cat 489 S T60 0 = .inr (11, [.ref (b2 0), .ref (b7 0), .ref (b12 0), .ref (b17 0), .ref (b22 0), .ref (b27 0), .ref (b32 0), .ref (b37 0), .ref q41, .ref q42, .ref q43, .ref q44, .ref q45, .ref q46, .ref (b48 0), .ref (b53 0), .int 0, .int 0, .int 0]) := (cat_lo (by decide)).trans h0
  have a0 := (cat_lo (N := 489) (g := b59) (show 0 < 489 by decide)).trans a0
  have h127 : cat 489 S T60 127 = .inl (cSt, 6, .inr (.inr (.inr (.inr (fun _ => none))))) := (cat_lo (by decide)).trans h127
  have a127 := (cat_lo (N := 489) (g := b59) (show 127 < 489 by decide)).trans a127
  have h128 : cat 489 S T60 128 = .inl (cSt, 2, .inr (.inr (.inr (.inr (fun _ => none))))) := (cat_lo (by decide)).trans h128
  have a128 := (cat_lo (N := 489) (g := b59) (show 128 < 489 by decide)).trans a128
  have hBL := BL_push (b := b59) (T := T60) hBL (N := 489) (by decide +kernel) rfl hT62
  generalize cat 489 ad b59 = ad at G hBL h0 a0 h127 a127 h128 a128
  generalize cat 489 S T60 = S at G hBL h0 h127 h128
  have hv := hBL 14 (by decide) 0 (by decide)
  refine n_astq E G 127 5 489 (r := (RX9, TX9, 11)) (ci := 9) (vs := [.int 0, .int 0, .int 0, .ref (b59 1), .ref (b59 2), .ref (b59 3), .ref (b59 4), .ref (b59 5), .ref (b59 6), .ref (b59 7), .ref (b59 8)]) (k := 0) (f := (fun _ => none)) (by decide) a127 h127 rfl (by decide) hv.2 hv.1 rfl rfl (by decide) (by decide) dX11_init_183 (fun H locs G => ?_)
  have hBL := BL_put (q := 127) (e := .inl (cSt, 6, .inr (.inr (.inr (.inr (va_up (fun _ => none) 0 (some (b59 0)))))))) hBL (by decide +kernel)
  have h0 := (va_up_ne S (.inl (cSt, 6, .inr (.inr (.inr (.inr (va_up (fun _ => none) 0 (some (b59 0))))))) : va_E) (show 0 ≠ 127 by decide)).trans h0
  have h128 := (va_up_ne S (.inl (cSt, 6, .inr (.inr (.inr (.inr (va_up (fun _ => none) 0 (some (b59 0))))))) : va_E) (show 128 ≠ 127 by decide)).trans h128
  have h127 := va_up_self S 127 (.inl (cSt, 6, .inr (.inr (.inr (.inr (va_up (fun _ => none) 0 (some (b59 0))))))) : va_E)
  generalize va_up S 127 (.inl (cSt, 6, .inr (.inr (.inr (.inr (va_up (fun _ => none) 0 (some (b59 0)))))))) = S at G hBL h0 h127 h128
  refine lv_iinc (v := 1) (lv' := [(1, .int 1), (0, .ref h)]) hx hb dX11_init_184 hl (k := 0) rfl (by decide +kernel) (by decide) rfl (fun ls hl => ?_)
  refine lv_goto (tgt := 165) hx hb dX11_init_187 (by decide) ?_
  refine lv_iload_n hx hb dX11_init_165 rfl (lv_at hl 0 rfl) ?_
  refine lv_bipush (v := 6) hx hb dX11_init_166 (by decide) ?_
  refine lv_icmp_ge (tgt := 190) hx hb dX11_init_168 (by decide) (fun c63 => absurd c63 (by decide +kernel)) (fun c63 => ?_)
  refine lv_aload_n hx hb dX11_init_171 rfl (lv_at hl 1 rfl) ?_
  refine n_getr E G 0 8 h (fs := [.ref (b2 0), .ref (b7 0), .ref (b12 0), .ref (b17 0), .ref (b22 0), .ref (b27 0), .ref (b32 0), .ref (b37 0), .ref q41, .ref q42, .ref q43, .ref q44, .ref q45, .ref q46, .ref (b48 0), .ref (b53 0), .int 0, .int 0, .int 0]) (by decide) a0 h0 rfl (fun w h => .tail _ (iA_22 h)) (by decide) (.tail _ qA_567) rfl rfl dX11_init_172 ?_
  refine lv_iload_n hx hb dX11_init_175 rfl (lv_at hl 0 rfl) ?_
  refine n_new E G hA (ci := 9) (fs := [.int 0, .int 0, .int 0, .null, .null, .null, .null, .null, .null, .null, .null]) (fun w h => .tail _ (iA_14 h)) tyX9 tyX9_ok (.tail _ qA_563) (.tail _ qA_564) (.tail _ qA_27) rfl (by decide) (Nat.le_of_ble_eq_true rfl) (Nat.le_of_ble_eq_true rfl) dX11_init_176 (fun q64 H G => ?_)
  refine lv_dup hx hb dX11_init_179 rfl ?_
  refine n_initN (N := 510) E G hA hxs nX.moved hml (n_X9 l D cI cJ cZ cMic cSrc cSt cAI cAJ) ⟨va_cnB (host := "AcousticCamera") 0 hts (gaC qA_512) rfl rfl rfl (hxs.2.2.2.2.2 _ (List.mem_of_getElem? (i := 7) rfl)) (hts _ (.tail _ qA_27)) (by decide +kernel) ⟨Nat.le_of_ble_eq_true rfl, Nat.le_of_ble_eq_true rfl⟩, rfl, hts _ (.tail _ qA_582)⟩ (cat_hi (Nat.le_refl _)) (cat_hi (Nat.le_refl _)) hl.1 (lv_room (Nat.le_of_ble_eq_true rfl)) dX11_init_180 ⟨Nat.le_of_ble_eq_true rfl, Nat.le_of_ble_eq_true rfl⟩ (fun b65 T66 H locs hb67 hT68 G => ?_)
  subst hb67
  rw [cat_cat, cat_cat] at G
  have G : cG D (cat 510 ad b65) 531 A s.heap H locs (cat 510 S T66) := G
  have h0 : cat 510 S T66 0 = .inr (11, [.ref (b2 0), .ref (b7 0), .ref (b12 0), .ref (b17 0), .ref (b22 0), .ref (b27 0), .ref (b32 0), .ref (b37 0), .ref q41, .ref q42, .ref q43, .ref q44, .ref q45, .ref q46, .ref (b48 0), .ref (b53 0), .int 0, .int 0, .int 0]) := (cat_lo (by decide)).trans h0
  have a0 := (cat_lo (N := 510) (g := b65) (show 0 < 510 by decide)).trans a0
  have h127 : cat 510 S T66 127 = .inl (cSt, 6, .inr (.inr (.inr (.inr (va_up (fun _ => none) 0 (some (b59 0))))))) := (cat_lo (by decide)).trans h127
  have a127 := (cat_lo (N := 510) (g := b65) (show 127 < 510 by decide)).trans a127
  have h128 : cat 510 S T66 128 = .inl (cSt, 2, .inr (.inr (.inr (.inr (fun _ => none))))) := (cat_lo (by decide)).trans h128
  have a128 := (cat_lo (N := 510) (g := b65) (show 128 < 510 by decide)).trans a128
  have hBL := BL_push (b := b65) (T := T66) hBL (N := 510) (by decide +kernel) rfl hT68
  generalize cat 510 ad b65 = ad at G hBL h0 a0 h127 a127 h128 a128
  generalize cat 510 S T66 = S at G hBL h0 h127 h128
  have hv := hBL 15 (by decide) 0 (by decide)
  refine n_astq E G 127 5 510 (r := (RX9, TX9, 11)) (ci := 9) (vs := [.int 0, .int 0, .int 0, .ref (b65 1), .ref (b65 2), .ref (b65 3), .ref (b65 4), .ref (b65 5), .ref (b65 6), .ref (b65 7), .ref (b65 8)]) (k := 1) (f := (va_up (fun _ => none) 0 (some (b59 0)))) (by decide) a127 h127 rfl (by decide) hv.2 hv.1 rfl rfl (by decide) (by decide) dX11_init_183 (fun H locs G => ?_)
  have hBL := BL_put (q := 127) (e := .inl (cSt, 6, .inr (.inr (.inr (.inr (va_up (va_up (fun _ => none) 0 (some (b59 0))) 1 (some (b65 0)))))))) hBL (by decide +kernel)
  have h0 := (va_up_ne S (.inl (cSt, 6, .inr (.inr (.inr (.inr (va_up (va_up (fun _ => none) 0 (some (b59 0))) 1 (some (b65 0))))))) : va_E) (show 0 ≠ 127 by decide)).trans h0
  have h128 := (va_up_ne S (.inl (cSt, 6, .inr (.inr (.inr (.inr (va_up (va_up (fun _ => none) 0 (some (b59 0))) 1 (some (b65 0))))))) : va_E) (show 128 ≠ 127 by decide)).trans h128
  have h127 := va_up_self S 127 (.inl (cSt, 6, .inr (.inr (.inr (.inr (va_up (va_up (fun _ => none) 0 (some (b59 0))) 1 (some (b65 0))))))) : va_E)
  generalize va_up S 127 (.inl (cSt, 6, .inr (.inr (.inr (.inr (va_up (va_up (fun _ => none) 0 (some (b59 0))) 1 (some (b65 0)))))))) = S at G hBL h0 h127 h128
  refine lv_iinc (v := 2) (lv' := [(1, .int 2), (0, .ref h)]) hx hb dX11_init_184 hl (k := 0) rfl (by decide +kernel) (by decide) rfl (fun ls hl => ?_)
  refine lv_goto (tgt := 165) hx hb dX11_init_187 (by decide) ?_
  refine lv_iload_n hx hb dX11_init_165 rfl (lv_at hl 0 rfl) ?_
  refine lv_bipush (v := 6) hx hb dX11_init_166 (by decide) ?_
  refine lv_icmp_ge (tgt := 190) hx hb dX11_init_168 (by decide) (fun c69 => absurd c69 (by decide +kernel)) (fun c69 => ?_)
  refine lv_aload_n hx hb dX11_init_171 rfl (lv_at hl 1 rfl) ?_
  refine n_getr E G 0 8 h (fs := [.ref (b2 0), .ref (b7 0), .ref (b12 0), .ref (b17 0), .ref (b22 0), .ref (b27 0), .ref (b32 0), .ref (b37 0), .ref q41, .ref q42, .ref q43, .ref q44, .ref q45, .ref q46, .ref (b48 0), .ref (b53 0), .int 0, .int 0, .int 0]) (by decide) a0 h0 rfl (fun w h => .tail _ (iA_22 h)) (by decide) (.tail _ qA_567) rfl rfl dX11_init_172 ?_
  refine lv_iload_n hx hb dX11_init_175 rfl (lv_at hl 0 rfl) ?_
  refine n_new E G hA (ci := 9) (fs := [.int 0, .int 0, .int 0, .null, .null, .null, .null, .null, .null, .null, .null]) (fun w h => .tail _ (iA_14 h)) tyX9 tyX9_ok (.tail _ qA_563) (.tail _ qA_564) (.tail _ qA_27) rfl (by decide) (Nat.le_of_ble_eq_true rfl) (Nat.le_of_ble_eq_true rfl) dX11_init_176 (fun q70 H G => ?_)
  refine lv_dup hx hb dX11_init_179 rfl ?_
  refine n_initN (N := 531) E G hA hxs nX.moved hml (n_X9 l D cI cJ cZ cMic cSrc cSt cAI cAJ) ⟨va_cnB (host := "AcousticCamera") 0 hts (gaC qA_512) rfl rfl rfl (hxs.2.2.2.2.2 _ (List.mem_of_getElem? (i := 7) rfl)) (hts _ (.tail _ qA_27)) (by decide +kernel) ⟨Nat.le_of_ble_eq_true rfl, Nat.le_of_ble_eq_true rfl⟩, rfl, hts _ (.tail _ qA_582)⟩ (cat_hi (Nat.le_refl _)) (cat_hi (Nat.le_refl _)) hl.1 (lv_room (Nat.le_of_ble_eq_true rfl)) dX11_init_180 ⟨Nat.le_of_ble_eq_true rfl, Nat.le_of_ble_eq_true rfl⟩ (fun b71 T72 H locs hb73 hT74 G => ?_)
  subst hb73
  rw [cat_cat, cat_cat] at G
  have G : cG D (cat 531 ad b71) 552 A s.heap H locs (cat 531 S T72) := G
  have h0 : cat 531 S T72 0 = .inr (11, [.ref (b2 0), .ref (b7 0), .ref (b12 0), .ref (b17 0), .ref (b22 0), .ref (b27 0), .ref (b32 0), .ref (b37 0), .ref q41, .ref q42, .ref q43, .ref q44, .ref q45, .ref q46, .ref (b48 0), .ref (b53 0), .int 0, .int 0, .int 0]) := (cat_lo (by decide)).trans h0
  have a0 := (cat_lo (N := 531) (g := b71) (show 0 < 531 by decide)).trans a0
  have h127 : cat 531 S T72 127 = .inl (cSt, 6, .inr (.inr (.inr (.inr (va_up (va_up (fun _ => none) 0 (some (b59 0))) 1 (some (b65 0))))))) := (cat_lo (by decide)).trans h127
  have a127 := (cat_lo (N := 531) (g := b71) (show 127 < 531 by decide)).trans a127
  have h128 : cat 531 S T72 128 = .inl (cSt, 2, .inr (.inr (.inr (.inr (fun _ => none))))) := (cat_lo (by decide)).trans h128
  have a128 := (cat_lo (N := 531) (g := b71) (show 128 < 531 by decide)).trans a128
  have hBL := BL_push (b := b71) (T := T72) hBL (N := 531) (by decide +kernel) rfl hT74
  generalize cat 531 ad b71 = ad at G hBL h0 a0 h127 a127 h128 a128
  generalize cat 531 S T72 = S at G hBL h0 h127 h128
  have hv := hBL 16 (by decide) 0 (by decide)
  refine n_astq E G 127 5 531 (r := (RX9, TX9, 11)) (ci := 9) (vs := [.int 0, .int 0, .int 0, .ref (b71 1), .ref (b71 2), .ref (b71 3), .ref (b71 4), .ref (b71 5), .ref (b71 6), .ref (b71 7), .ref (b71 8)]) (k := 2) (f := (va_up (va_up (fun _ => none) 0 (some (b59 0))) 1 (some (b65 0)))) (by decide) a127 h127 rfl (by decide) hv.2 hv.1 rfl rfl (by decide) (by decide) dX11_init_183 (fun H locs G => ?_)
  have hBL := BL_put (q := 127) (e := .inl (cSt, 6, .inr (.inr (.inr (.inr (va_up (va_up (va_up (fun _ => none) 0 (some (b59 0))) 1 (some (b65 0))) 2 (some (b71 0)))))))) hBL (by decide +kernel)
  have h0 := (va_up_ne S (.inl (cSt, 6, .inr (.inr (.inr (.inr (va_up (va_up (va_up (fun _ => none) 0 (some (b59 0))) 1 (some (b65 0))) 2 (some (b71 0))))))) : va_E) (show 0 ≠ 127 by decide)).trans h0
  have h128 := (va_up_ne S (.inl (cSt, 6, .inr (.inr (.inr (.inr (va_up (va_up (va_up (fun _ => none) 0 (some (b59 0))) 1 (some (b65 0))) 2 (some (b71 0))))))) : va_E) (show 128 ≠ 127 by decide)).trans h128
  have h127 := va_up_self S 127 (.inl (cSt, 6, .inr (.inr (.inr (.inr (va_up (va_up (va_up (fun _ => none) 0 (some (b59 0))) 1 (some (b65 0))) 2 (some (b71 0))))))) : va_E)
  generalize va_up S 127 (.inl (cSt, 6, .inr (.inr (.inr (.inr (va_up (va_up (va_up (fun _ => none) 0 (some (b59 0))) 1 (some (b65 0))) 2 (some (b71 0)))))))) = S at G hBL h0 h127 h128
  refine lv_iinc (v := 3) (lv' := [(1, .int 3), (0, .ref h)]) hx hb dX11_init_184 hl (k := 0) rfl (by decide +kernel) (by decide) rfl (fun ls hl => ?_)
  refine lv_goto (tgt := 165) hx hb dX11_init_187 (by decide) ?_
  refine lv_iload_n hx hb dX11_init_165 rfl (lv_at hl 0 rfl) ?_
  refine lv_bipush (v := 6) hx hb dX11_init_166 (by decide) ?_
  refine lv_icmp_ge (tgt := 190) hx hb dX11_init_168 (by decide) (fun c75 => absurd c75 (by decide +kernel)) (fun c75 => ?_)
  refine lv_aload_n hx hb dX11_init_171 rfl (lv_at hl 1 rfl) ?_
  refine n_getr E G 0 8 h (fs := [.ref (b2 0), .ref (b7 0), .ref (b12 0), .ref (b17 0), .ref (b22 0), .ref (b27 0), .ref (b32 0), .ref (b37 0), .ref q41, .ref q42, .ref q43, .ref q44, .ref q45, .ref q46, .ref (b48 0), .ref (b53 0), .int 0, .int 0, .int 0]) (by decide) a0 h0 rfl (fun w h => .tail _ (iA_22 h)) (by decide) (.tail _ qA_567) rfl rfl dX11_init_172 ?_
  refine lv_iload_n hx hb dX11_init_175 rfl (lv_at hl 0 rfl) ?_
  refine n_new E G hA (ci := 9) (fs := [.int 0, .int 0, .int 0, .null, .null, .null, .null, .null, .null, .null, .null]) (fun w h => .tail _ (iA_14 h)) tyX9 tyX9_ok (.tail _ qA_563) (.tail _ qA_564) (.tail _ qA_27) rfl (by decide) (Nat.le_of_ble_eq_true rfl) (Nat.le_of_ble_eq_true rfl) dX11_init_176 (fun q76 H G => ?_)
  refine lv_dup hx hb dX11_init_179 rfl ?_
  refine n_initN (N := 552) E G hA hxs nX.moved hml (n_X9 l D cI cJ cZ cMic cSrc cSt cAI cAJ) ⟨va_cnB (host := "AcousticCamera") 0 hts (gaC qA_512) rfl rfl rfl (hxs.2.2.2.2.2 _ (List.mem_of_getElem? (i := 7) rfl)) (hts _ (.tail _ qA_27)) (by decide +kernel) ⟨Nat.le_of_ble_eq_true rfl, Nat.le_of_ble_eq_true rfl⟩, rfl, hts _ (.tail _ qA_582)⟩ (cat_hi (Nat.le_refl _)) (cat_hi (Nat.le_refl _)) hl.1 (lv_room (Nat.le_of_ble_eq_true rfl)) dX11_init_180 ⟨Nat.le_of_ble_eq_true rfl, Nat.le_of_ble_eq_true rfl⟩ (fun b77 T78 H locs hb79 hT80 G => ?_)
  subst hb79
  rw [cat_cat, cat_cat] at G
  have G : cG D (cat 552 ad b77) 573 A s.heap H locs (cat 552 S T78) := G
  have h0 : cat 552 S T78 0 = .inr (11, [.ref (b2 0), .ref (b7 0), .ref (b12 0), .ref (b17 0), .ref (b22 0), .ref (b27 0), .ref (b32 0), .ref (b37 0), .ref q41, .ref q42, .ref q43, .ref q44, .ref q45, .ref q46, .ref (b48 0), .ref (b53 0), .int 0, .int 0, .int 0]) := (cat_lo (by decide)).trans h0
  have a0 := (cat_lo (N := 552) (g := b77) (show 0 < 552 by decide)).trans a0
  have h127 : cat 552 S T78 127 = .inl (cSt, 6, .inr (.inr (.inr (.inr (va_up (va_up (va_up (fun _ => none) 0 (some (b59 0))) 1 (some (b65 0))) 2 (some (b71 0))))))) := (cat_lo (by decide)).trans h127
  have a127 := (cat_lo (N := 552) (g := b77) (show 127 < 552 by decide)).trans a127
  have h128 : cat 552 S T78 128 = .inl (cSt, 2, .inr (.inr (.inr (.inr (fun _ => none))))) := (cat_lo (by decide)).trans h128
  have a128 := (cat_lo (N := 552) (g := b77) (show 128 < 552 by decide)).trans a128
  have hBL := BL_push (b := b77) (T := T78) hBL (N := 552) (by decide +kernel) rfl hT80
  generalize cat 552 ad b77 = ad at G hBL h0 a0 h127 a127 h128 a128
  generalize cat 552 S T78 = S at G hBL h0 h127 h128
  have hv := hBL 17 (by decide) 0 (by decide)
  refine n_astq E G 127 5 552 (r := (RX9, TX9, 11)) (ci := 9) (vs := [.int 0, .int 0, .int 0, .ref (b77 1), .ref (b77 2), .ref (b77 3), .ref (b77 4), .ref (b77 5), .ref (b77 6), .ref (b77 7), .ref (b77 8)]) (k := 3) (f := (va_up (va_up (va_up (fun _ => none) 0 (some (b59 0))) 1 (some (b65 0))) 2 (some (b71 0)))) (by decide) a127 h127 rfl (by decide) hv.2 hv.1 rfl rfl (by decide) (by decide) dX11_init_183 (fun H locs G => ?_)
  have hBL := BL_put (q := 127) (e := .inl (cSt, 6, .inr (.inr (.inr (.inr (va_up (va_up (va_up (va_up (fun _ => none) 0 (some (b59 0))) 1 (some (b65 0))) 2 (some (b71 0))) 3 (some (b77 0)))))))) hBL (by decide +kernel)
  have h0 := (va_up_ne S (.inl (cSt, 6, .inr (.inr (.inr (.inr (va_up (va_up (va_up (va_up (fun _ => none) 0 (some (b59 0))) 1 (some (b65 0))) 2 (some (b71 0))) 3 (some (b77 0))))))) : va_E) (show 0 ≠ 127 by decide)).trans h0
  have h128 := (va_up_ne S (.inl (cSt, 6, .inr (.inr (.inr (.inr (va_up (va_up (va_up (va_up (fun _ => none) 0 (some (b59 0))) 1 (some (b65 0))) 2 (some (b71 0))) 3 (some (b77 0))))))) : va_E) (show 128 ≠ 127 by decide)).trans h128
  have h127 := va_up_self S 127 (.inl (cSt, 6, .inr (.inr (.inr (.inr (va_up (va_up (va_up (va_up (fun _ => none) 0 (some (b59 0))) 1 (some (b65 0))) 2 (some (b71 0))) 3 (some (b77 0))))))) : va_E)
  generalize va_up S 127 (.inl (cSt, 6, .inr (.inr (.inr (.inr (va_up (va_up (va_up (va_up (fun _ => none) 0 (some (b59 0))) 1 (some (b65 0))) 2 (some (b71 0))) 3 (some (b77 0)))))))) = S at G hBL h0 h127 h128
  refine lv_iinc (v := 4) (lv' := [(1, .int 4), (0, .ref h)]) hx hb dX11_init_184 hl (k := 0) rfl (by decide +kernel) (by decide) rfl (fun ls hl => ?_)
  refine lv_goto (tgt := 165) hx hb dX11_init_187 (by decide) ?_
  refine lv_iload_n hx hb dX11_init_165 rfl (lv_at hl 0 rfl) ?_
  refine lv_bipush (v := 6) hx hb dX11_init_166 (by decide) ?_
  refine lv_icmp_ge (tgt := 190) hx hb dX11_init_168 (by decide) (fun c81 => absurd c81 (by decide +kernel)) (fun c81 => ?_)
  refine lv_aload_n hx hb dX11_init_171 rfl (lv_at hl 1 rfl) ?_
  refine n_getr E G 0 8 h (fs := [.ref (b2 0), .ref (b7 0), .ref (b12 0), .ref (b17 0), .ref (b22 0), .ref (b27 0), .ref (b32 0), .ref (b37 0), .ref q41, .ref q42, .ref q43, .ref q44, .ref q45, .ref q46, .ref (b48 0), .ref (b53 0), .int 0, .int 0, .int 0]) (by decide) a0 h0 rfl (fun w h => .tail _ (iA_22 h)) (by decide) (.tail _ qA_567) rfl rfl dX11_init_172 ?_
  refine lv_iload_n hx hb dX11_init_175 rfl (lv_at hl 0 rfl) ?_
  refine n_new E G hA (ci := 9) (fs := [.int 0, .int 0, .int 0, .null, .null, .null, .null, .null, .null, .null, .null]) (fun w h => .tail _ (iA_14 h)) tyX9 tyX9_ok (.tail _ qA_563) (.tail _ qA_564) (.tail _ qA_27) rfl (by decide) (Nat.le_of_ble_eq_true rfl) (Nat.le_of_ble_eq_true rfl) dX11_init_176 (fun q82 H G => ?_)
  refine lv_dup hx hb dX11_init_179 rfl ?_
  refine n_initN (N := 573) E G hA hxs nX.moved hml (n_X9 l D cI cJ cZ cMic cSrc cSt cAI cAJ) ⟨va_cnB (host := "AcousticCamera") 0 hts (gaC qA_512) rfl rfl rfl (hxs.2.2.2.2.2 _ (List.mem_of_getElem? (i := 7) rfl)) (hts _ (.tail _ qA_27)) (by decide +kernel) ⟨Nat.le_of_ble_eq_true rfl, Nat.le_of_ble_eq_true rfl⟩, rfl, hts _ (.tail _ qA_582)⟩ (cat_hi (Nat.le_refl _)) (cat_hi (Nat.le_refl _)) hl.1 (lv_room (Nat.le_of_ble_eq_true rfl)) dX11_init_180 ⟨Nat.le_of_ble_eq_true rfl, Nat.le_of_ble_eq_true rfl⟩ (fun b83 T84 H locs hb85 hT86 G => ?_)
  subst hb85
  rw [cat_cat, cat_cat] at G
  have G : cG D (cat 573 ad b83) 594 A s.heap H locs (cat 573 S T84) := G
  have h0 : cat 573 S T84 0 = .inr (11, [.ref (b2 0), .ref (b7 0), .ref (b12 0), .ref (b17 0), .ref (b22 0), .ref (b27 0), .ref (b32 0), .ref (b37 0), .ref q41, .ref q42, .ref q43, .ref q44, .ref q45, .ref q46, .ref (b48 0), .ref (b53 0), .int 0, .int 0, .int 0]) := (cat_lo (by decide)).trans h0
  have a0 := (cat_lo (N := 573) (g := b83) (show 0 < 573 by decide)).trans a0
  have h127 : cat 573 S T84 127 = .inl (cSt, 6, .inr (.inr (.inr (.inr (va_up (va_up (va_up (va_up (fun _ => none) 0 (some (b59 0))) 1 (some (b65 0))) 2 (some (b71 0))) 3 (some (b77 0))))))) := (cat_lo (by decide)).trans h127
  have a127 := (cat_lo (N := 573) (g := b83) (show 127 < 573 by decide)).trans a127
  have h128 : cat 573 S T84 128 = .inl (cSt, 2, .inr (.inr (.inr (.inr (fun _ => none))))) := (cat_lo (by decide)).trans h128
  have a128 := (cat_lo (N := 573) (g := b83) (show 128 < 573 by decide)).trans a128
  have hBL := BL_push (b := b83) (T := T84) hBL (N := 573) (by decide +kernel) rfl hT86
  generalize cat 573 ad b83 = ad at G hBL h0 a0 h127 a127 h128 a128
  generalize cat 573 S T84 = S at G hBL h0 h127 h128
  have hv := hBL 18 (by decide) 0 (by decide)
  refine n_astq E G 127 5 573 (r := (RX9, TX9, 11)) (ci := 9) (vs := [.int 0, .int 0, .int 0, .ref (b83 1), .ref (b83 2), .ref (b83 3), .ref (b83 4), .ref (b83 5), .ref (b83 6), .ref (b83 7), .ref (b83 8)]) (k := 4) (f := (va_up (va_up (va_up (va_up (fun _ => none) 0 (some (b59 0))) 1 (some (b65 0))) 2 (some (b71 0))) 3 (some (b77 0)))) (by decide) a127 h127 rfl (by decide) hv.2 hv.1 rfl rfl (by decide) (by decide) dX11_init_183 (fun H locs G => ?_)
  have hBL := BL_put (q := 127) (e := .inl (cSt, 6, .inr (.inr (.inr (.inr (va_up (va_up (va_up (va_up (va_up (fun _ => none) 0 (some (b59 0))) 1 (some (b65 0))) 2 (some (b71 0))) 3 (some (b77 0))) 4 (some (b83 0)))))))) hBL (by decide +kernel)
  have h0 := (va_up_ne S (.inl (cSt, 6, .inr (.inr (.inr (.inr (va_up (va_up (va_up (va_up (va_up (fun _ => none) 0 (some (b59 0))) 1 (some (b65 0))) 2 (some (b71 0))) 3 (some (b77 0))) 4 (some (b83 0))))))) : va_E) (show 0 ≠ 127 by decide)).trans h0
  have h128 := (va_up_ne S (.inl (cSt, 6, .inr (.inr (.inr (.inr (va_up (va_up (va_up (va_up (va_up (fun _ => none) 0 (some (b59 0))) 1 (some (b65 0))) 2 (some (b71 0))) 3 (some (b77 0))) 4 (some (b83 0))))))) : va_E) (show 128 ≠ 127 by decide)).trans h128
  have h127 := va_up_self S 127 (.inl (cSt, 6, .inr (.inr (.inr (.inr (va_up (va_up (va_up (va_up (va_up (fun _ => none) 0 (some (b59 0))) 1 (some (b65 0))) 2 (some (b71 0))) 3 (some (b77 0))) 4 (some (b83 0))))))) : va_E)
  generalize va_up S 127 (.inl (cSt, 6, .inr (.inr (.inr (.inr (va_up (va_up (va_up (va_up (va_up (fun _ => none) 0 (some (b59 0))) 1 (some (b65 0))) 2 (some (b71 0))) 3 (some (b77 0))) 4 (some (b83 0)))))))) = S at G hBL h0 h127 h128
  refine lv_iinc (v := 5) (lv' := [(1, .int 5), (0, .ref h)]) hx hb dX11_init_184 hl (k := 0) rfl (by decide +kernel) (by decide) rfl (fun ls hl => ?_)
  refine lv_goto (tgt := 165) hx hb dX11_init_187 (by decide) ?_
  refine lv_iload_n hx hb dX11_init_165 rfl (lv_at hl 0 rfl) ?_
  refine lv_bipush (v := 6) hx hb dX11_init_166 (by decide) ?_
  refine lv_icmp_ge (tgt := 190) hx hb dX11_init_168 (by decide) (fun c87 => absurd c87 (by decide +kernel)) (fun c87 => ?_)
  refine lv_aload_n hx hb dX11_init_171 rfl (lv_at hl 1 rfl) ?_
  refine n_getr E G 0 8 h (fs := [.ref (b2 0), .ref (b7 0), .ref (b12 0), .ref (b17 0), .ref (b22 0), .ref (b27 0), .ref (b32 0), .ref (b37 0), .ref q41, .ref q42, .ref q43, .ref q44, .ref q45, .ref q46, .ref (b48 0), .ref (b53 0), .int 0, .int 0, .int 0]) (by decide) a0 h0 rfl (fun w h => .tail _ (iA_22 h)) (by decide) (.tail _ qA_567) rfl rfl dX11_init_172 ?_
  refine lv_iload_n hx hb dX11_init_175 rfl (lv_at hl 0 rfl) ?_
  refine n_new E G hA (ci := 9) (fs := [.int 0, .int 0, .int 0, .null, .null, .null, .null, .null, .null, .null, .null]) (fun w h => .tail _ (iA_14 h)) tyX9 tyX9_ok (.tail _ qA_563) (.tail _ qA_564) (.tail _ qA_27) rfl (by decide) (Nat.le_of_ble_eq_true rfl) (Nat.le_of_ble_eq_true rfl) dX11_init_176 (fun q88 H G => ?_)
  refine lv_dup hx hb dX11_init_179 rfl ?_
  refine n_initN (N := 594) E G hA hxs nX.moved hml (n_X9 l D cI cJ cZ cMic cSrc cSt cAI cAJ) ⟨va_cnB (host := "AcousticCamera") 0 hts (gaC qA_512) rfl rfl rfl (hxs.2.2.2.2.2 _ (List.mem_of_getElem? (i := 7) rfl)) (hts _ (.tail _ qA_27)) (by decide +kernel) ⟨Nat.le_of_ble_eq_true rfl, Nat.le_of_ble_eq_true rfl⟩, rfl, hts _ (.tail _ qA_582)⟩ (cat_hi (Nat.le_refl _)) (cat_hi (Nat.le_refl _)) hl.1 (lv_room (Nat.le_of_ble_eq_true rfl)) dX11_init_180 ⟨Nat.le_of_ble_eq_true rfl, Nat.le_of_ble_eq_true rfl⟩ (fun b89 T90 H locs hb91 hT92 G => ?_)
  subst hb91
  rw [cat_cat, cat_cat] at G
  have G : cG D (cat 594 ad b89) 615 A s.heap H locs (cat 594 S T90) := G
  have h0 : cat 594 S T90 0 = .inr (11, [.ref (b2 0), .ref (b7 0), .ref (b12 0), .ref (b17 0), .ref (b22 0), .ref (b27 0), .ref (b32 0), .ref (b37 0), .ref q41, .ref q42, .ref q43, .ref q44, .ref q45, .ref q46, .ref (b48 0), .ref (b53 0), .int 0, .int 0, .int 0]) := (cat_lo (by decide)).trans h0
  have a0 := (cat_lo (N := 594) (g := b89) (show 0 < 594 by decide)).trans a0
  have h127 : cat 594 S T90 127 = .inl (cSt, 6, .inr (.inr (.inr (.inr (va_up (va_up (va_up (va_up (va_up (fun _ => none) 0 (some (b59 0))) 1 (some (b65 0))) 2 (some (b71 0))) 3 (some (b77 0))) 4 (some (b83 0))))))) := (cat_lo (by decide)).trans h127
  have a127 := (cat_lo (N := 594) (g := b89) (show 127 < 594 by decide)).trans a127
  have h128 : cat 594 S T90 128 = .inl (cSt, 2, .inr (.inr (.inr (.inr (fun _ => none))))) := (cat_lo (by decide)).trans h128
  have a128 := (cat_lo (N := 594) (g := b89) (show 128 < 594 by decide)).trans a128
  have hBL := BL_push (b := b89) (T := T90) hBL (N := 594) (by decide +kernel) rfl hT92
  generalize cat 594 ad b89 = ad at G hBL h0 a0 h127 a127 h128 a128
  generalize cat 594 S T90 = S at G hBL h0 h127 h128
  have hv := hBL 19 (by decide) 0 (by decide)
  refine n_astq E G 127 5 594 (r := (RX9, TX9, 11)) (ci := 9) (vs := [.int 0, .int 0, .int 0, .ref (b89 1), .ref (b89 2), .ref (b89 3), .ref (b89 4), .ref (b89 5), .ref (b89 6), .ref (b89 7), .ref (b89 8)]) (k := 5) (f := (va_up (va_up (va_up (va_up (va_up (fun _ => none) 0 (some (b59 0))) 1 (some (b65 0))) 2 (some (b71 0))) 3 (some (b77 0))) 4 (some (b83 0)))) (by decide) a127 h127 rfl (by decide) hv.2 hv.1 rfl rfl (by decide) (by decide) dX11_init_183 (fun H locs G => ?_)
  have hBL := BL_put (q := 127) (e := .inl (cSt, 6, .inr (.inr (.inr (.inr (va_up (va_up (va_up (va_up (va_up (va_up (fun _ => none) 0 (some (b59 0))) 1 (some (b65 0))) 2 (some (b71 0))) 3 (some (b77 0))) 4 (some (b83 0))) 5 (some (b89 0)))))))) hBL (by decide +kernel)
  have h0 := (va_up_ne S (.inl (cSt, 6, .inr (.inr (.inr (.inr (va_up (va_up (va_up (va_up (va_up (va_up (fun _ => none) 0 (some (b59 0))) 1 (some (b65 0))) 2 (some (b71 0))) 3 (some (b77 0))) 4 (some (b83 0))) 5 (some (b89 0))))))) : va_E) (show 0 ≠ 127 by decide)).trans h0
  have h128 := (va_up_ne S (.inl (cSt, 6, .inr (.inr (.inr (.inr (va_up (va_up (va_up (va_up (va_up (va_up (fun _ => none) 0 (some (b59 0))) 1 (some (b65 0))) 2 (some (b71 0))) 3 (some (b77 0))) 4 (some (b83 0))) 5 (some (b89 0))))))) : va_E) (show 128 ≠ 127 by decide)).trans h128
  have h127 := va_up_self S 127 (.inl (cSt, 6, .inr (.inr (.inr (.inr (va_up (va_up (va_up (va_up (va_up (va_up (fun _ => none) 0 (some (b59 0))) 1 (some (b65 0))) 2 (some (b71 0))) 3 (some (b77 0))) 4 (some (b83 0))) 5 (some (b89 0))))))) : va_E)
  generalize va_up S 127 (.inl (cSt, 6, .inr (.inr (.inr (.inr (va_up (va_up (va_up (va_up (va_up (va_up (fun _ => none) 0 (some (b59 0))) 1 (some (b65 0))) 2 (some (b71 0))) 3 (some (b77 0))) 4 (some (b83 0))) 5 (some (b89 0)))))))) = S at G hBL h0 h127 h128
  refine lv_iinc (v := 6) (lv' := [(1, .int 6), (0, .ref h)]) hx hb dX11_init_184 hl (k := 0) rfl (by decide +kernel) (by decide) rfl (fun ls hl => ?_)
  refine lv_goto (tgt := 165) hx hb dX11_init_187 (by decide) ?_
  refine lv_iload_n hx hb dX11_init_165 rfl (lv_at hl 0 rfl) ?_
  refine lv_bipush (v := 6) hx hb dX11_init_166 (by decide) ?_
  refine lv_icmp_ge (tgt := 190) hx hb dX11_init_168 (by decide) (fun c93 => ?_) (fun c93 => absurd (by decide +kernel) c93)
  refine lv_iconst (v := 0) hx hb dX11_init_190 (by decide) ?_
  refine lv_istore_n (lv' := [(1, .int 0), (0, .ref h)]) hx hb dX11_init_191 rfl hl (by decide) rfl (fun ls hl => ?_)
  refine lv_iload_n hx hb dX11_init_192 rfl (lv_at hl 0 rfl) ?_
  refine lv_iconst (v := 2) hx hb dX11_init_193 (by decide) ?_
  refine lv_icmp_ge (tgt := 216) hx hb dX11_init_194 (by decide) (fun c94 => absurd c94 (by decide +kernel)) (fun c94 => ?_)
  refine lv_aload_n hx hb dX11_init_197 rfl (lv_at hl 1 rfl) ?_
  refine n_getr E G 0 9 h (fs := [.ref (b2 0), .ref (b7 0), .ref (b12 0), .ref (b17 0), .ref (b22 0), .ref (b27 0), .ref (b32 0), .ref (b37 0), .ref q41, .ref q42, .ref q43, .ref q44, .ref q45, .ref q46, .ref (b48 0), .ref (b53 0), .int 0, .int 0, .int 0]) (by decide) a0 h0 rfl (fun w h => .tail _ (iA_22 h)) (by decide) (.tail _ qA_568) rfl rfl dX11_init_198 ?_
  refine lv_iload_n hx hb dX11_init_201 rfl (lv_at hl 0 rfl) ?_
  refine n_new E G hA (ci := 9) (fs := [.int 0, .int 0, .int 0, .null, .null, .null, .null, .null, .null, .null, .null]) (fun w h => .tail _ (iA_14 h)) tyX9 tyX9_ok (.tail _ qA_563) (.tail _ qA_564) (.tail _ qA_27) rfl (by decide) (Nat.le_of_ble_eq_true rfl) (Nat.le_of_ble_eq_true rfl) dX11_init_202 (fun q95 H G => ?_)
  refine lv_dup hx hb dX11_init_205 rfl ?_
  refine n_initN (N := 615) E G hA hxs nX.moved hml (n_X9 l D cI cJ cZ cMic cSrc cSt cAI cAJ) ⟨va_cnB (host := "AcousticCamera") 0 hts (gaC qA_512) rfl rfl rfl (hxs.2.2.2.2.2 _ (List.mem_of_getElem? (i := 7) rfl)) (hts _ (.tail _ qA_27)) (by decide +kernel) ⟨Nat.le_of_ble_eq_true rfl, Nat.le_of_ble_eq_true rfl⟩, rfl, hts _ (.tail _ qA_582)⟩ (cat_hi (Nat.le_refl _)) (cat_hi (Nat.le_refl _)) hl.1 (lv_room (Nat.le_of_ble_eq_true rfl)) dX11_init_206 ⟨Nat.le_of_ble_eq_true rfl, Nat.le_of_ble_eq_true rfl⟩ (fun b96 T97 H locs hb98 hT99 G => ?_)
  subst hb98
  rw [cat_cat, cat_cat] at G
  have G : cG D (cat 615 ad b96) 636 A s.heap H locs (cat 615 S T97) := G
  have h0 : cat 615 S T97 0 = .inr (11, [.ref (b2 0), .ref (b7 0), .ref (b12 0), .ref (b17 0), .ref (b22 0), .ref (b27 0), .ref (b32 0), .ref (b37 0), .ref q41, .ref q42, .ref q43, .ref q44, .ref q45, .ref q46, .ref (b48 0), .ref (b53 0), .int 0, .int 0, .int 0]) := (cat_lo (by decide)).trans h0
  have a0 := (cat_lo (N := 615) (g := b96) (show 0 < 615 by decide)).trans a0
  have h127 : cat 615 S T97 127 = .inl (cSt, 6, .inr (.inr (.inr (.inr (va_up (va_up (va_up (va_up (va_up (va_up (fun _ => none) 0 (some (b59 0))) 1 (some (b65 0))) 2 (some (b71 0))) 3 (some (b77 0))) 4 (some (b83 0))) 5 (some (b89 0))))))) := (cat_lo (by decide)).trans h127
  have a127 := (cat_lo (N := 615) (g := b96) (show 127 < 615 by decide)).trans a127
  have h128 : cat 615 S T97 128 = .inl (cSt, 2, .inr (.inr (.inr (.inr (fun _ => none))))) := (cat_lo (by decide)).trans h128
  have a128 := (cat_lo (N := 615) (g := b96) (show 128 < 615 by decide)).trans a128
  have hBL := BL_push (b := b96) (T := T97) hBL (N := 615) (by decide +kernel) rfl hT99
  generalize cat 615 ad b96 = ad at G hBL h0 a0 h127 a127 h128 a128
  generalize cat 615 S T97 = S at G hBL h0 h127 h128
  have hv := hBL 20 (by decide) 0 (by decide)
  refine n_astq E G 128 5 615 (r := (RX9, TX9, 11)) (ci := 9) (vs := [.int 0, .int 0, .int 0, .ref (b96 1), .ref (b96 2), .ref (b96 3), .ref (b96 4), .ref (b96 5), .ref (b96 6), .ref (b96 7), .ref (b96 8)]) (k := 0) (f := (fun _ => none)) (by decide) a128 h128 rfl (by decide) hv.2 hv.1 rfl rfl (by decide) (by decide) dX11_init_209 (fun H locs G => ?_)
  have hBL := BL_put (q := 128) (e := .inl (cSt, 2, .inr (.inr (.inr (.inr (va_up (fun _ => none) 0 (some (b96 0)))))))) hBL (by decide +kernel)
  have h0 := (va_up_ne S (.inl (cSt, 2, .inr (.inr (.inr (.inr (va_up (fun _ => none) 0 (some (b96 0))))))) : va_E) (show 0 ≠ 128 by decide)).trans h0
  have h127 := (va_up_ne S (.inl (cSt, 2, .inr (.inr (.inr (.inr (va_up (fun _ => none) 0 (some (b96 0))))))) : va_E) (show 127 ≠ 128 by decide)).trans h127
  have h128 := va_up_self S 128 (.inl (cSt, 2, .inr (.inr (.inr (.inr (va_up (fun _ => none) 0 (some (b96 0))))))) : va_E)
  generalize va_up S 128 (.inl (cSt, 2, .inr (.inr (.inr (.inr (va_up (fun _ => none) 0 (some (b96 0)))))))) = S at G hBL h0 h127 h128
  refine lv_iinc (v := 1) (lv' := [(1, .int 1), (0, .ref h)]) hx hb dX11_init_210 hl (k := 0) rfl (by decide +kernel) (by decide) rfl (fun ls hl => ?_)
  refine lv_goto (tgt := 192) hx hb dX11_init_213 (by decide) ?_
  refine lv_iload_n hx hb dX11_init_192 rfl (lv_at hl 0 rfl) ?_
  refine lv_iconst (v := 2) hx hb dX11_init_193 (by decide) ?_
  refine lv_icmp_ge (tgt := 216) hx hb dX11_init_194 (by decide) (fun c100 => absurd c100 (by decide +kernel)) (fun c100 => ?_)
  refine lv_aload_n hx hb dX11_init_197 rfl (lv_at hl 1 rfl) ?_
  refine n_getr E G 0 9 h (fs := [.ref (b2 0), .ref (b7 0), .ref (b12 0), .ref (b17 0), .ref (b22 0), .ref (b27 0), .ref (b32 0), .ref (b37 0), .ref q41, .ref q42, .ref q43, .ref q44, .ref q45, .ref q46, .ref (b48 0), .ref (b53 0), .int 0, .int 0, .int 0]) (by decide) a0 h0 rfl (fun w h => .tail _ (iA_22 h)) (by decide) (.tail _ qA_568) rfl rfl dX11_init_198 ?_
  refine lv_iload_n hx hb dX11_init_201 rfl (lv_at hl 0 rfl) ?_
  refine n_new E G hA (ci := 9) (fs := [.int 0, .int 0, .int 0, .null, .null, .null, .null, .null, .null, .null, .null]) (fun w h => .tail _ (iA_14 h)) tyX9 tyX9_ok (.tail _ qA_563) (.tail _ qA_564) (.tail _ qA_27) rfl (by decide) (Nat.le_of_ble_eq_true rfl) (Nat.le_of_ble_eq_true rfl) dX11_init_202 (fun q101 H G => ?_)
  refine lv_dup hx hb dX11_init_205 rfl ?_
  refine n_initN (N := 636) E G hA hxs nX.moved hml (n_X9 l D cI cJ cZ cMic cSrc cSt cAI cAJ) ⟨va_cnB (host := "AcousticCamera") 0 hts (gaC qA_512) rfl rfl rfl (hxs.2.2.2.2.2 _ (List.mem_of_getElem? (i := 7) rfl)) (hts _ (.tail _ qA_27)) (by decide +kernel) ⟨Nat.le_of_ble_eq_true rfl, Nat.le_of_ble_eq_true rfl⟩, rfl, hts _ (.tail _ qA_582)⟩ (cat_hi (Nat.le_refl _)) (cat_hi (Nat.le_refl _)) hl.1 (lv_room (Nat.le_of_ble_eq_true rfl)) dX11_init_206 ⟨Nat.le_of_ble_eq_true rfl, Nat.le_of_ble_eq_true rfl⟩ (fun b102 T103 H locs hb104 hT105 G => ?_)
  subst hb104
  rw [cat_cat, cat_cat] at G
  have G : cG D (cat 636 ad b102) 657 A s.heap H locs (cat 636 S T103) := G
  have h0 : cat 636 S T103 0 = .inr (11, [.ref (b2 0), .ref (b7 0), .ref (b12 0), .ref (b17 0), .ref (b22 0), .ref (b27 0), .ref (b32 0), .ref (b37 0), .ref q41, .ref q42, .ref q43, .ref q44, .ref q45, .ref q46, .ref (b48 0), .ref (b53 0), .int 0, .int 0, .int 0]) := (cat_lo (by decide)).trans h0
  have a0 := (cat_lo (N := 636) (g := b102) (show 0 < 636 by decide)).trans a0
  have h127 : cat 636 S T103 127 = .inl (cSt, 6, .inr (.inr (.inr (.inr (va_up (va_up (va_up (va_up (va_up (va_up (fun _ => none) 0 (some (b59 0))) 1 (some (b65 0))) 2 (some (b71 0))) 3 (some (b77 0))) 4 (some (b83 0))) 5 (some (b89 0))))))) := (cat_lo (by decide)).trans h127
  have a127 := (cat_lo (N := 636) (g := b102) (show 127 < 636 by decide)).trans a127
  have h128 : cat 636 S T103 128 = .inl (cSt, 2, .inr (.inr (.inr (.inr (va_up (fun _ => none) 0 (some (b96 0))))))) := (cat_lo (by decide)).trans h128
  have a128 := (cat_lo (N := 636) (g := b102) (show 128 < 636 by decide)).trans a128
  have hBL := BL_push (b := b102) (T := T103) hBL (N := 636) (by decide +kernel) rfl hT105
  generalize cat 636 ad b102 = ad at G hBL h0 a0 h127 a127 h128 a128
  generalize cat 636 S T103 = S at G hBL h0 h127 h128
  have hv := hBL 21 (by decide) 0 (by decide)
  refine n_astq E G 128 5 636 (r := (RX9, TX9, 11)) (ci := 9) (vs := [.int 0, .int 0, .int 0, .ref (b102 1), .ref (b102 2), .ref (b102 3), .ref (b102 4), .ref (b102 5), .ref (b102 6), .ref (b102 7), .ref (b102 8)]) (k := 1) (f := (va_up (fun _ => none) 0 (some (b96 0)))) (by decide) a128 h128 rfl (by decide) hv.2 hv.1 rfl rfl (by decide) (by decide) dX11_init_209 (fun H locs G => ?_)
  have hBL := BL_put (q := 128) (e := .inl (cSt, 2, .inr (.inr (.inr (.inr (va_up (va_up (fun _ => none) 0 (some (b96 0))) 1 (some (b102 0)))))))) hBL (by decide +kernel)
  have h0 := (va_up_ne S (.inl (cSt, 2, .inr (.inr (.inr (.inr (va_up (va_up (fun _ => none) 0 (some (b96 0))) 1 (some (b102 0))))))) : va_E) (show 0 ≠ 128 by decide)).trans h0
  have h127 := (va_up_ne S (.inl (cSt, 2, .inr (.inr (.inr (.inr (va_up (va_up (fun _ => none) 0 (some (b96 0))) 1 (some (b102 0))))))) : va_E) (show 127 ≠ 128 by decide)).trans h127
  have h128 := va_up_self S 128 (.inl (cSt, 2, .inr (.inr (.inr (.inr (va_up (va_up (fun _ => none) 0 (some (b96 0))) 1 (some (b102 0))))))) : va_E)
  generalize va_up S 128 (.inl (cSt, 2, .inr (.inr (.inr (.inr (va_up (va_up (fun _ => none) 0 (some (b96 0))) 1 (some (b102 0)))))))) = S at G hBL h0 h127 h128
  refine lv_iinc (v := 2) (lv' := [(1, .int 2), (0, .ref h)]) hx hb dX11_init_210 hl (k := 0) rfl (by decide +kernel) (by decide) rfl (fun ls hl => ?_)
  refine lv_goto (tgt := 192) hx hb dX11_init_213 (by decide) ?_
  refine lv_iload_n hx hb dX11_init_192 rfl (lv_at hl 0 rfl) ?_
  refine lv_iconst (v := 2) hx hb dX11_init_193 (by decide) ?_
  refine lv_icmp_ge (tgt := 216) hx hb dX11_init_194 (by decide) (fun c106 => ?_) (fun c106 => absurd (by decide +kernel) c106)
  refine W.widen (k := 656) (n := 44817) (Nat.le_of_ble_eq_true rfl) (Nat.le_of_ble_eq_true rfl) ?_
  have e1 : ad 1 = (b2 0) := (hBL 0 (by decide) 0 (by decide)).2
  have e3 : ad 3 = (b7 0) := (hBL 1 (by decide) 0 (by decide)).2
  have e9 : ad 9 = (b12 0) := (hBL 2 (by decide) 0 (by decide)).2
  have e24 : ad 24 = (b17 0) := (hBL 3 (by decide) 0 (by decide)).2
  have e77 : ad 77 = (b22 0) := (hBL 4 (by decide) 0 (by decide)).2
  have e81 : ad 81 = (b27 0) := (hBL 5 (by decide) 0 (by decide)).2
  have e85 : ad 85 = (b32 0) := (hBL 6 (by decide) 0 (by decide)).2
  have e106 : ad 106 = (b37 0) := (hBL 7 (by decide) 0 (by decide)).2
  have e129 : ad 129 = q43 := (hBL 8 (by decide) 0 (by decide)).2
  have e130 : ad 130 = q44 := (hBL 9 (by decide) 0 (by decide)).2
  have e131 : ad 131 = q45 := (hBL 10 (by decide) 0 (by decide)).2
  have e132 : ad 132 = q46 := (hBL 11 (by decide) 0 (by decide)).2
  have e133 : ad 133 = (b48 0) := (hBL 12 (by decide) 0 (by decide)).2
  have e311 : ad 311 = (b53 0) := (hBL 13 (by decide) 0 (by decide)).2
  have e489 : ad 489 = (b59 0) := (hBL 14 (by decide) 0 (by decide)).2
  have e510 : ad 510 = (b65 0) := (hBL 15 (by decide) 0 (by decide)).2
  have e531 : ad 531 = (b71 0) := (hBL 16 (by decide) 0 (by decide)).2
  have e552 : ad 552 = (b77 0) := (hBL 17 (by decide) 0 (by decide)).2
  have e573 : ad 573 = (b83 0) := (hBL 18 (by decide) 0 (by decide)).2
  have e594 : ad 594 = (b89 0) := (hBL 19 (by decide) 0 (by decide)).2
  have e615 : ad 615 = (b96 0) := (hBL 20 (by decide) 0 (by decide)).2
  have e636 : ad 636 = (b102 0) := (hBL 21 (by decide) 0 (by decide)).2
  have p0 : S 0 = iX11_0 cI cJ cZ cMic cSrc cSt cAI cAJ ad := by
    unfold iX11_0
    rw [e1, e3, e9, e24, e77, e81, e85, e106, e129, e130, e131, e132, e133, e311, a127, a128]
    exact h0
  have p127 : S 127 = iX11_127 cI cJ cZ cMic cSrc cSt cAI cAJ ad := by
    unfold iX11_127
    rw [e489, e510, e531, e552, e573, e594]
    exact h127
  have p128 : S 128 = iX11_128 cI cJ cZ cMic cSrc cSt cAI cAJ ad := by
    unfold iX11_128
    rw [e615, e636]
    exact h128
  exact W.vret hx hb hr (fun t ht hW => ⟨⟨(ad, S), rfl, ⟨a0, p0, p127, p128, ⟨_, hBL⟩⟩, by rw [ht]; exact G.1, va_K.moved hW.alike hK, G.2.1⟩, G.2.2.F ht⟩) G.2.2.2.2 dX11_init_216
