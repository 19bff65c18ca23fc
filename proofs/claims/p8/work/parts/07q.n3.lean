/-- AcousticCamera: its blocks of cells -/
def n3off : Nat → Nat := fun j => ([1, 7, 22, 66, 154, 242, 336, 432, 433, 434, 477, 478, 656, 834, 928, 1022, 1116, 1210, 1304, 1398, 1492] : List Nat).getD j 0
def n3len : Nat → Nat := fun j => ([5, 15, 44, 88, 88, 94, 94, 1, 1, 43, 1, 178, 178, 94, 94, 94, 94, 94, 94, 94, 94] : List Nat).getD j 0
def n3blk (cI cJ cZ cMic cSrc cSt cAI cAJ : ClassId) (j : Nat) (b : Nat → Nat) : Nat → va_E := match j with
  | 0 => iX9 cI cJ cZ cMic cSrc cSt cAI cAJ b
  | 1 => iX5 cI cJ cZ cMic cSrc cSt cAI cAJ b
  | 2 => iX0 cI cJ cZ cMic cSrc cSt cAI cAJ b
  | 3 => iX4 cI cJ cZ cMic cSrc cSt cAI cAJ b
  | 4 => iX4 cI cJ cZ cMic cSrc cSt cAI cAJ b
  | 5 => iX8 cI cJ cZ cMic cSrc cSt cAI cAJ b
  | 6 => iX8 cI cJ cZ cMic cSrc cSt cAI cAJ b
  | 7 => fun _ => .inl (cZ, 2, .inl (fun _ => 0))
  | 8 => fun _ => .inl (cI, 12, .inl (fun _ => 0))
  | 9 => iX10_12 cI cJ cZ cMic cSrc cSt cAI cAJ b
  | 10 => fun _ => .inl (cI, 155, .inl (fun _ => 0))
  | 11 => iX6 cI cJ cZ cMic cSrc cSt cAI cAJ b
  | 12 => iX6 cI cJ cZ cMic cSrc cSt cAI cAJ b
  | 13 => iX8 cI cJ cZ cMic cSrc cSt cAI cAJ b
  | 14 => iX8 cI cJ cZ cMic cSrc cSt cAI cAJ b
  | 15 => iX8 cI cJ cZ cMic cSrc cSt cAI cAJ b
  | 16 => iX8 cI cJ cZ cMic cSrc cSt cAI cAJ b
  | 17 => iX8 cI cJ cZ cMic cSrc cSt cAI cAJ b
  | 18 => iX8 cI cJ cZ cMic cSrc cSt cAI cAJ b
  | 19 => iX8 cI cJ cZ cMic cSrc cSt cAI cAJ b
  | 20 => iX8 cI cJ cZ cMic cSrc cSt cAI cAJ b
  | _ => fun _ => .inr (0, [])
def BL (cI cJ cZ cMic cSrc cSt cAI cAJ : ClassId) (n : Nat) (ad : Nat → Nat) (S : Nat → va_E) (bs : Nat → Nat → Nat) : Prop := ∀ j, j < n → ∀ i, i < n3len j → S (n3off j + i) = n3blk cI cJ cZ cMic cSrc cSt cAI cAJ j (bs j) i ∧ ad (n3off j + i) = bs j i
theorem cat_cat {α : Type} {N : Nat} {f g h : Nat → α} : cat N (cat N f g) h = cat N f h := by
  funext n
  by_cases q : n < N
  · rw [cat_lo q, cat_lo q, cat_lo q]
  · rw [cat_hi (Nat.not_lt.mp q), cat_hi (Nat.not_lt.mp q)]
section BLR
variable {cI cJ cZ cMic cSrc cSt cAI cAJ : ClassId} {n N q : Nat} {ad b g1 : Nat → Nat} {S T g2 : Nat → va_E} {bs : Nat → Nat → Nat} {e : va_E}
theorem BL_push (h : BL cI cJ cZ cMic cSrc cSt cAI cAJ n ad S bs) (hN : ∀ j, j < n → n3off j + n3len j ≤ N) (ho : n3off n = N) (hT : ∀ i, i < n3len n → T i = n3blk cI cJ cZ cMic cSrc cSt cAI cAJ n b i) : BL cI cJ cZ cMic cSrc cSt cAI cAJ (n + 1) (cat N ad b) (cat N S T) (va_up bs n b) := by
  intro j hj i hi
  rcases Nat.lt_or_eq_of_le (Nat.le_of_lt_succ hj) with h1 | rfl
  · have h2 : n3off j + i < N := Nat.lt_of_lt_of_le (Nat.add_lt_add_left hi _) (hN j h1)
    rw [va_up_ne _ _ (Nat.ne_of_lt h1), cat_lo h2, cat_lo h2]
    exact h j h1 i hi
  · have h2 : N ≤ n3off j + i := by rw [ho]; exact Nat.le_add_right _ _
    rw [va_up_self, cat_hi h2, cat_hi h2, ho, Nat.add_sub_cancel_left]
    exact ⟨hT i hi, rfl⟩
theorem BL_skip (h : BL cI cJ cZ cMic cSrc cSt cAI cAJ n ad S bs) (hN : ∀ j, j < n → n3off j + n3len j ≤ N) : BL cI cJ cZ cMic cSrc cSt cAI cAJ n (cat N ad g1) (cat N S g2) bs := by
  intro j hj i hi
  have h2 : n3off j + i < N := Nat.lt_of_lt_of_le (Nat.add_lt_add_left hi _) (hN j hj)
  rw [cat_lo h2, cat_lo h2]
  exact h j hj i hi
theorem BL_put (h : BL cI cJ cZ cMic cSrc cSt cAI cAJ n ad S bs) (hq : ∀ j, j < n → n3off j + n3len j ≤ q ∨ q < n3off j) : BL cI cJ cZ cMic cSrc cSt cAI cAJ n ad (va_up S q e) bs := by
  intro j hj i hi
  rw [va_up_ne _ _ (show n3off j + i ≠ q from fun h9 => by rcases hq j hj with h3 | h3 <;> omega)]
  exact h j hj i hi
end BLR
def iX11_0 (cI cJ cZ cMic cSrc cSt cAI cAJ : ClassId) (b : Nat → Nat) : va_E := .inr (11, [.ref (b 1), .ref (b 6), .ref (b 7), .ref (b 22), .ref (b 66), .ref (b 154), .ref (b 242), .ref (b 336), .ref (b 430), .ref (b 431), .ref (b 432), .ref (b 433), .ref (b 434), .ref (b 477), .ref (b 478), .ref (b 656), .int 0, .int 0, .int 0])
def iX11_6 (cI cJ cZ cMic cSrc cSt cAI cAJ : ClassId) (b : Nat → Nat) : va_E := .inr (3, [.ref (b 1), .int 0, .int 0, .int (-1)])
def iX11_430 (cI cJ cZ cMic cSrc cSt cAI cAJ : ClassId) (b : Nat → Nat) : va_E := .inl (cSt, 6, .inr (.inr (.inr (.inr (va_up (va_up (va_up (va_up (va_up (va_up (fun _ => none) 0 (some (b 834))) 1 (some (b 928))) 2 (some (b 1022))) 3 (some (b 1116))) 4 (some (b 1210))) 5 (some (b 1304)))))))
def iX11_431 (cI cJ cZ cMic cSrc cSt cAI cAJ : ClassId) (b : Nat → Nat) : va_E := .inl (cSt, 2, .inr (.inr (.inr (.inr (va_up (va_up (fun _ => none) 0 (some (b 1398))) 1 (some (b 1492)))))))
set_option maxHeartbeats 8000000 in
set_option maxRecDepth 100000 in
theorem n_X11 (l : Launch) (D : va_G) (cI cJ cZ cMic cSrc cSt cAI cAJ : ClassId) : cN l yX11_init (Cond.code yX11_init cX11_init 2 none :: wsA) 3 62 1585 44639 D (CT cI cJ cZ cMic cSrc cSt cAI cAJ) nX 11 [.null, .null, .null, .null, .null, .null, .null, .null, .null, .null, .null, .null, .null, .null, .null, .null, .int 0, .int 0, .int 0] 1586 (fun b T => T 0 = iX11_0 cI cJ cZ cMic cSrc cSt cAI cAJ b ∧ T 6 = iX11_6 cI cJ cZ cMic cSrc cSt cAI cAJ b ∧ T 430 = iX11_430 cI cJ cZ cMic cSrc cSt cAI cAJ b ∧ T 431 = iX11_431 cI cJ cZ cMic cSrc cSt cAI cAJ b ∧ ∃ bs, BL cI cJ cZ cMic cSrc cSt cAI cAJ 21 b T bs) := by
  intro h sz
  refine Met.ofW (cc := cX11_init) (maxL := 2) (ret := none) (by decide) rfl ?_
  intro p e s m args below meth c s₁ B hml hv
  obtain ⟨rfl, hsz, hP, hK, hD0, hxs⟩ := hv
  have hx := B.exec
  have hb := B.bytes
  have hr := B.returns
  have hts := atoms_spec (ws := (Cond.code yX11_init cX11_init 2 none :: wsA)) B.pre
  have hown : s.vm.findClass RX11 = some m.cls := findClass_of_methodNamed B.named
  have hlocks := B.notSynchronized
  have hin : meth.name = "<init>" := (name_of_methodNamed B.named B.method).1
  subst hsz
  have hD := hD0.self (sz := s.heap.size)
  generalize hAe : va_A (cW (fun _ => h) 1 (fun _ => .inr (11, [.null, .null, .null, .null, .null, .null, .null, .null, .null, .null, .null, .null, .null, .null, .null, .null, .int 0, .int 0, .int 0]))) s.heap.size = A at hD ⊢
  have hA : ∀ q : Nat, s.heap.size ≤ q → A q := fun q h => by rw [← hAe]; exact Or.inr h
  have G : cG D (fun _ => h) 1 A s.heap s.heap [] (fun _ => .inr (11, [.null, .null, .null, .null, .null, .null, .null, .null, .null, .null, .null, .null, .null, .null, .null, .null, .int 0, .int 0, .int 0])) := ⟨hP, hD, va_S.rf⟩
  have E : cE p c cX11_init s m ([.ref h] : List Value).toArray (Cond.code yX11_init cX11_init 2 none :: wsA) D RX11 (CT cI cJ cZ cMic cSrc cSt cAI cAJ) := ⟨hx, hb, hts, hown, hK⟩
  have hl := lv_entry ([.ref h]) (n := 2) (Nat.le_of_ble_eq_true rfl)
  rw [lg_entry_eq]
  generalize (lg_sl ([.ref h]) ++ List.replicate (2 - (lg_sl ([.ref h])).length) Slot.unset).toArray = ls at hl ⊢
  have hl : lv_has ls 2 [(0, .ref h)] := hl
  have h0 : (fun _ : Nat => (.inr (11, [.null, .null, .null, .null, .null, .null, .null, .null, .null, .null, .null, .null, .null, .null, .null, .null, .int 0, .int 0, .int 0]) : va_E)) 0 = .inr (11, [.null, .null, .null, .null, .null, .null, .null, .null, .null, .null, .null, .null, .null, .null, .null, .null, .int 0, .int 0, .int 0]) := rfl
  have a0 : (fun _ : Nat => h) 0 = h := rfl
  have hBL : BL cI cJ cZ cMic cSrc cSt cAI cAJ 0 (fun _ => h) (fun _ => .inr (11, [.null, .null, .null, .null, .null, .null, .null, .null, .null, .null, .null, .null, .null, .null, .null, .null, .int 0, .int 0, .int 0])) (fun _ _ => 0) := fun j hj => absurd hj (Nat.not_lt_zero j)
  generalize (fun _ : Nat => h) = ad at G hBL a0
  generalize (fun _ : Nat => (.inr (11, [.null, .null, .null, .null, .null, .null, .null, .null, .null, .null, .null, .null, .null, .null, .null, .null, .int 0, .int 0, .int 0]) : va_E)) = S at G hBL h0
  refine lv_aload_n hx hb dX11_init_0 rfl (lv_at hl 0 rfl) ?_
  refine W.objInit hx hb hown (hts _ (.tail _ qA_645)) (hts _ (.tail _ qA_2)) (hts _ (.tail _ qA_3)) rfl (by rw [hml]; exact hl.1) rfl dX11_init_1 (Nat.le_of_ble_eq_true rfl) (Nat.le_of_ble_eq_true rfl) ?_
  refine W.eq (g2 := F0 m 4 ls []) rfl ?_
  refine lv_aload_n hx hb dX11_init_4 rfl (lv_at hl 0 rfl) ?_
  refine n_new E G hA (ci := 9) (fs := [.null, .int 0, .null, .null, .null, .int 0]) (fun w h => .tail _ (iA_18 h)) tyX9 tyX9_ok (.tail _ qA_646) (.tail _ qA_647) (.tail _ qA_185) rfl (by decide) (Nat.le_of_ble_eq_true rfl) (Nat.le_of_ble_eq_true rfl) dX11_init_5 (fun q1 H G => ?_)
  refine lv_dup hx hb dX11_init_8 rfl ?_
  refine n_initN (N := 1) E G hA hxs nX.moved hml (n_X9 l D cI cJ cZ cMic cSrc cSt cAI cAJ) ⟨va_cnB (host := "AcousticCamera") 0 hts (gaC qA_629) rfl rfl rfl (hxs.2.2.2.2.2 _ (List.mem_of_getElem? (i := 0) rfl)) (hts _ (.tail _ qA_185)) (by decide +kernel) ⟨Nat.le_of_ble_eq_true rfl, Nat.le_of_ble_eq_true rfl⟩, rfl, hts _ (.tail _ qA_677)⟩ (cat_hi (Nat.le_refl _)) (cat_hi (Nat.le_refl _)) hl.1 (lv_room (Nat.le_of_ble_eq_true rfl)) dX11_init_9 ⟨Nat.le_of_ble_eq_true rfl, Nat.le_of_ble_eq_true rfl⟩ (fun b2 T3 H locs hb4 hT5 G => ?_)
  subst hb4
  rw [cat_cat, cat_cat] at G
  have G : cG D (cat 1 ad b2) 6 A s.heap H locs (cat 1 S T3) := G
  have h0 : cat 1 S T3 0 = .inr (11, [.null, .null, .null, .null, .null, .null, .null, .null, .null, .null, .null, .null, .null, .null, .null, .null, .int 0, .int 0, .int 0]) := (cat_lo (by decide)).trans h0
  have a0 := (cat_lo (N := 1) (g := b2) (show 0 < 1 by decide)).trans a0
  have hBL := BL_push (b := b2) (T := T3) hBL (N := 1) (by decide +kernel) rfl hT5
  generalize cat 1 ad b2 = ad at G hBL h0 a0
  generalize cat 1 S T3 = S at G hBL h0
  refine n_putF E G 0 0 h (fs := [.null, .null, .null, .null, .null, .null, .null, .null, .null, .null, .null, .null, .null, .null, .null, .null, .int 0, .int 0, .int 0]) (fs1 := [.ref (b2 0), .null, .null, .null, .null, .null, .null, .null, .null, .null, .null, .null, .null, .null, .null, .null, .int 0, .int 0, .int 0]) (by decide) a0 h0 rfl (fun w h => .tail _ (iA_23 h)) tyX11 tyX11_ok nmX11 (by decide) (.tail _ qA_648) ⟨rfl, rfl, rfl⟩ hin rfl rfl rfl (Nat.le_of_ble_eq_true rfl) rfl dX11_init_12 (fun H locs G => ?_)
  have hBL := BL_put (q := 0) (e := .inr (11, [.ref (b2 0), .null, .null, .null, .null, .null, .null, .null, .null, .null, .null, .null, .null, .null, .null, .null, .int 0, .int 0, .int 0])) hBL (by decide +kernel)
  have h0 := va_up_self S 0 (.inr (11, [.ref (b2 0), .null, .null, .null, .null, .null, .null, .null, .null, .null, .null, .null, .null, .null, .null, .null, .int 0, .int 0, .int 0]) : va_E)
  generalize va_up S 0 (.inr (11, [.ref (b2 0), .null, .null, .null, .null, .null, .null, .null, .null, .null, .null, .null, .null, .null, .null, .null, .int 0, .int 0, .int 0])) = S at G hBL h0
  refine lv_aload_n hx hb dX11_init_15 rfl (lv_at hl 0 rfl) ?_
  refine n_new E G hA (ci := 3) (fs := [.null, .int 0, .int 0, .int 0]) (fun w h => .tail _ (iA_17 h)) tyX3 tyX3_ok (.tail _ qA_649) (.tail _ qA_650) (.tail _ qA_222) rfl (by decide) (Nat.le_of_ble_eq_true rfl) (Nat.le_of_ble_eq_true rfl) dX11_init_16 (fun q6 H G => ?_)
  refine lv_dup hx hb dX11_init_19 rfl ?_
  refine lv_aload_n hx hb dX11_init_20 rfl (lv_at hl 0 rfl) ?_
  refine n_getr E G 0 0 h (fs := [.ref (b2 0), .null, .null, .null, .null, .null, .null, .null, .null, .null, .null, .null, .null, .null, .null, .null, .int 0, .int 0, .int 0]) (by decide) a0 h0 rfl (fun w h => .tail _ (iA_23 h)) (by decide) (.tail _ qA_648) rfl rfl dX11_init_21 ?_
  refine n_initA (As := [.ref (b2 0)]) (rest := [.ref q6, .ref h]) (N := 6) E G hA hxs nX.moved hml (n_X3 l D cI cJ cZ cMic cSrc cSt cAI cAJ (b2 0)) (cwI 1 hts (gaC qA_171) rfl rfl rfl (hts _ (.tail _ qA_222)) (hts _ (.tail _ qA_678)) (hts _ (.tail _ qA_679)) rfl (by decide +kernel) ⟨Nat.le_of_ble_eq_true rfl, Nat.le_of_ble_eq_true rfl⟩) (cat_hi (Nat.le_refl _)) (cat_hi (Nat.le_refl _)) rfl hl.1 rfl (lv_room (Nat.le_of_ble_eq_true rfl)) dX11_init_24 ⟨Nat.le_of_ble_eq_true rfl, Nat.le_of_ble_eq_true rfl⟩ (fun b7 T8 H locs hb9 hT10 G => ?_)
  subst hb9
  rw [cat_cat, cat_cat] at G
  have G : cG D (cat 6 ad b7) 7 A s.heap H locs (cat 6 S T8) := G
  have h0 : cat 6 S T8 0 = .inr (11, [.ref (b2 0), .null, .null, .null, .null, .null, .null, .null, .null, .null, .null, .null, .null, .null, .null, .null, .int 0, .int 0, .int 0]) := (cat_lo (by decide)).trans h0
  have a0 := (cat_lo (N := 6) (g := b7) (show 0 < 6 by decide)).trans a0
  have hBL := BL_skip (g1 := b7) (g2 := T8) hBL (N := 6) (by decide +kernel)
  have h6 : cat 6 S T8 6 = .inr (3, [.ref (b2 0), .int 0, .int 0, .int (-1)]) := (cat_hi (Nat.le_refl _)).trans ((congrArg T8 (Nat.sub_self _)).trans (hT10 0 (by decide)))
  have a6 : cat 6 ad b7 6 = b7 0 := (cat_hi (Nat.le_refl _)).trans (congrArg b7 (Nat.sub_self _))
  generalize cat 6 ad b7 = ad at G hBL h0 a0 h6 a6
  generalize cat 6 S T8 = S at G hBL h0 h6
  refine n_putF E G 0 1 h (fs := [.ref (b2 0), .null, .null, .null, .null, .null, .null, .null, .null, .null, .null, .null, .null, .null, .null, .null, .int 0, .int 0, .int 0]) (fs1 := [.ref (b2 0), .ref (b7 0), .null, .null, .null, .null, .null, .null, .null, .null, .null, .null, .null, .null, .null, .null, .int 0, .int 0, .int 0]) (by decide) a0 h0 rfl (fun w h => .tail _ (iA_23 h)) tyX11 tyX11_ok nmX11 (by decide) (.tail _ qA_651) ⟨rfl, rfl, rfl⟩ hin rfl rfl rfl (Nat.le_of_ble_eq_true rfl) rfl dX11_init_27 (fun H locs G => ?_)
  have hBL := BL_put (q := 0) (e := .inr (11, [.ref (b2 0), .ref (b7 0), .null, .null, .null, .null, .null, .null, .null, .null, .null, .null, .null, .null, .null, .null, .int 0, .int 0, .int 0])) hBL (by decide +kernel)
  have h6 := (va_up_ne S (.inr (11, [.ref (b2 0), .ref (b7 0), .null, .null, .null, .null, .null, .null, .null, .null, .null, .null, .null, .null, .null, .null, .int 0, .int 0, .int 0]) : va_E) (show 6 ≠ 0 by decide)).trans h6
  have h0 := va_up_self S 0 (.inr (11, [.ref (b2 0), .ref (b7 0), .null, .null, .null, .null, .null, .null, .null, .null, .null, .null, .null, .null, .null, .null, .int 0, .int 0, .int 0]) : va_E)
  generalize va_up S 0 (.inr (11, [.ref (b2 0), .ref (b7 0), .null, .null, .null, .null, .null, .null, .null, .null, .null, .null, .null, .null, .null, .null, .int 0, .int 0, .int 0])) = S at G hBL h0 h6
  refine lv_aload_n hx hb dX11_init_30 rfl (lv_at hl 0 rfl) ?_
  refine n_new E G hA (ci := 5) (fs := [.null, .null]) (fun w h => .tail _ (iA_22 h)) tyX5 tyX5_ok (.tail _ qA_652) (.tail _ qA_653) (.tail _ qA_475) rfl (by decide) (Nat.le_of_ble_eq_true rfl) (Nat.le_of_ble_eq_true rfl) dX11_init_31 (fun q11 H G => ?_)
  refine lv_dup hx hb dX11_init_34 rfl ?_
  refine n_initN (N := 7) E G hA hxs nX.moved hml (n_X5 l D cI cJ cZ cMic cSrc cSt cAI cAJ) ⟨va_cnB (host := "AcousticCamera") 0 hts (gaC qA_452) rfl rfl rfl (hxs.2.2.2.2.2 _ (List.mem_of_getElem? (i := 1) rfl)) (hts _ (.tail _ qA_475)) (by decide +kernel) ⟨Nat.le_of_ble_eq_true rfl, Nat.le_of_ble_eq_true rfl⟩, rfl, hts _ (.tail _ qA_680)⟩ (cat_hi (Nat.le_refl _)) (cat_hi (Nat.le_refl _)) hl.1 (lv_room (Nat.le_of_ble_eq_true rfl)) dX11_init_35 ⟨Nat.le_of_ble_eq_true rfl, Nat.le_of_ble_eq_true rfl⟩ (fun b12 T13 H locs hb14 hT15 G => ?_)
  subst hb14
  rw [cat_cat, cat_cat] at G
  have G : cG D (cat 7 ad b12) 22 A s.heap H locs (cat 7 S T13) := G
  have h0 : cat 7 S T13 0 = .inr (11, [.ref (b2 0), .ref (b7 0), .null, .null, .null, .null, .null, .null, .null, .null, .null, .null, .null, .null, .null, .null, .int 0, .int 0, .int 0]) := (cat_lo (by decide)).trans h0
  have a0 := (cat_lo (N := 7) (g := b12) (show 0 < 7 by decide)).trans a0
  have h6 : cat 7 S T13 6 = .inr (3, [.ref (b2 0), .int 0, .int 0, .int (-1)]) := (cat_lo (by decide)).trans h6
  have a6 := (cat_lo (N := 7) (g := b12) (show 6 < 7 by decide)).trans a6
  have hBL := BL_push (b := b12) (T := T13) hBL (N := 7) (by decide +kernel) rfl hT15
  generalize cat 7 ad b12 = ad at G hBL h0 a0 h6 a6
  generalize cat 7 S T13 = S at G hBL h0 h6
  refine n_putF E G 0 2 h (fs := [.ref (b2 0), .ref (b7 0), .null, .null, .null, .null, .null, .null, .null, .null, .null, .null, .null, .null, .null, .null, .int 0, .int 0, .int 0]) (fs1 := [.ref (b2 0), .ref (b7 0), .ref (b12 0), .null, .null, .null, .null, .null, .null, .null, .null, .null, .null, .null, .null, .null, .int 0, .int 0, .int 0]) (by decide) a0 h0 rfl (fun w h => .tail _ (iA_23 h)) tyX11 tyX11_ok nmX11 (by decide) (.tail _ qA_654) ⟨rfl, rfl, rfl⟩ hin rfl rfl rfl (Nat.le_of_ble_eq_true rfl) rfl dX11_init_38 (fun H locs G => ?_)
  have hBL := BL_put (q := 0) (e := .inr (11, [.ref (b2 0), .ref (b7 0), .ref (b12 0), .null, .null, .null, .null, .null, .null, .null, .null, .null, .null, .null, .null, .null, .int 0, .int 0, .int 0])) hBL (by decide +kernel)
  have h6 := (va_up_ne S (.inr (11, [.ref (b2 0), .ref (b7 0), .ref (b12 0), .null, .null, .null, .null, .null, .null, .null, .null, .null, .null, .null, .null, .null, .int 0, .int 0, .int 0]) : va_E) (show 6 ≠ 0 by decide)).trans h6
  have h0 := va_up_self S 0 (.inr (11, [.ref (b2 0), .ref (b7 0), .ref (b12 0), .null, .null, .null, .null, .null, .null, .null, .null, .null, .null, .null, .null, .null, .int 0, .int 0, .int 0]) : va_E)
  generalize va_up S 0 (.inr (11, [.ref (b2 0), .ref (b7 0), .ref (b12 0), .null, .null, .null, .null, .null, .null, .null, .null, .null, .null, .null, .null, .null, .int 0, .int 0, .int 0])) = S at G hBL h0 h6
  refine lv_aload_n hx hb dX11_init_41 rfl (lv_at hl 0 rfl) ?_
  refine n_new E G hA (ci := 0) (fs := [.null]) (fun w h => .tail _ (iA_13 h)) tyX0 tyX0_ok (.tail _ qA_655) (.tail _ qA_656) (.tail _ qA_31) rfl (by decide) (Nat.le_of_ble_eq_true rfl) (Nat.le_of_ble_eq_true rfl) dX11_init_42 (fun q16 H G => ?_)
  refine lv_dup hx hb dX11_init_45 rfl ?_
  refine n_initN (N := 22) E G hA hxs nX.moved hml (n_X0 l D cI cJ cZ cMic cSrc cSt cAI cAJ) ⟨va_cnB (host := "AcousticCamera") 0 hts (gaC qA_0) rfl rfl rfl (hxs.2.2.2.2.2 _ (List.mem_of_getElem? (i := 3) rfl)) (hts _ (.tail _ qA_31)) (by decide +kernel) ⟨Nat.le_of_ble_eq_true rfl, Nat.le_of_ble_eq_true rfl⟩, rfl, hts _ (.tail _ qA_681)⟩ (cat_hi (Nat.le_refl _)) (cat_hi (Nat.le_refl _)) hl.1 (lv_room (Nat.le_of_ble_eq_true rfl)) dX11_init_46 ⟨Nat.le_of_ble_eq_true rfl, Nat.le_of_ble_eq_true rfl⟩ (fun b17 T18 H locs hb19 hT20 G => ?_)
  subst hb19
  rw [cat_cat, cat_cat] at G
  have G : cG D (cat 22 ad b17) 66 A s.heap H locs (cat 22 S T18) := G
  have h0 : cat 22 S T18 0 = .inr (11, [.ref (b2 0), .ref (b7 0), .ref (b12 0), .null, .null, .null, .null, .null, .null, .null, .null, .null, .null, .null, .null, .null, .int 0, .int 0, .int 0]) := (cat_lo (by decide)).trans h0
  have a0 := (cat_lo (N := 22) (g := b17) (show 0 < 22 by decide)).trans a0
  have h6 : cat 22 S T18 6 = .inr (3, [.ref (b2 0), .int 0, .int 0, .int (-1)]) := (cat_lo (by decide)).trans h6
  have a6 := (cat_lo (N := 22) (g := b17) (show 6 < 22 by decide)).trans a6
  have hBL := BL_push (b := b17) (T := T18) hBL (N := 22) (by decide +kernel) rfl hT20
  generalize cat 22 ad b17 = ad at G hBL h0 a0 h6 a6
  generalize cat 22 S T18 = S at G hBL h0 h6
  refine n_putF E G 0 3 h (fs := [.ref (b2 0), .ref (b7 0), .ref (b12 0), .null, .null, .null, .null, .null, .null, .null, .null, .null, .null, .null, .null, .null, .int 0, .int 0, .int 0]) (fs1 := [.ref (b2 0), .ref (b7 0), .ref (b12 0), .ref (b17 0), .null, .null, .null, .null, .null, .null, .null, .null, .null, .null, .null, .null, .int 0, .int 0, .int 0]) (by decide) a0 h0 rfl (fun w h => .tail _ (iA_23 h)) tyX11 tyX11_ok nmX11 (by decide) (.tail _ qA_657) ⟨rfl, rfl, rfl⟩ hin rfl rfl rfl (Nat.le_of_ble_eq_true rfl) rfl dX11_init_49 (fun H locs G => ?_)
  have hBL := BL_put (q := 0) (e := .inr (11, [.ref (b2 0), .ref (b7 0), .ref (b12 0), .ref (b17 0), .null, .null, .null, .null, .null, .null, .null, .null, .null, .null, .null, .null, .int 0, .int 0, .int 0])) hBL (by decide +kernel)
  have h6 := (va_up_ne S (.inr (11, [.ref (b2 0), .ref (b7 0), .ref (b12 0), .ref (b17 0), .null, .null, .null, .null, .null, .null, .null, .null, .null, .null, .null, .null, .int 0, .int 0, .int 0]) : va_E) (show 6 ≠ 0 by decide)).trans h6
  have h0 := va_up_self S 0 (.inr (11, [.ref (b2 0), .ref (b7 0), .ref (b12 0), .ref (b17 0), .null, .null, .null, .null, .null, .null, .null, .null, .null, .null, .null, .null, .int 0, .int 0, .int 0]) : va_E)
  generalize va_up S 0 (.inr (11, [.ref (b2 0), .ref (b7 0), .ref (b12 0), .ref (b17 0), .null, .null, .null, .null, .null, .null, .null, .null, .null, .null, .null, .null, .int 0, .int 0, .int 0])) = S at G hBL h0 h6
  refine lv_aload_n hx hb dX11_init_52 rfl (lv_at hl 0 rfl) ?_
  refine n_new E G hA (ci := 4) (fs := [.int 0, .null, .int 0, .int 0, .null, .null]) (fun w h => .tail _ (iA_21 h)) tyX4 tyX4_ok (.tail _ qA_658) (.tail _ qA_659) (.tail _ qA_426) rfl (by decide) (Nat.le_of_ble_eq_true rfl) (Nat.le_of_ble_eq_true rfl) dX11_init_53 (fun q21 H G => ?_)
  refine lv_dup hx hb dX11_init_56 rfl ?_
  refine n_initN (N := 66) E G hA hxs nX.moved hml (n_X4 l D cI cJ cZ cMic cSrc cSt cAI cAJ) ⟨va_cnB (host := "AcousticCamera") 0 hts (gaC qA_405) rfl rfl rfl (hxs.2.2.2.2.2 _ (List.mem_of_getElem? (i := 4) rfl)) (hts _ (.tail _ qA_426)) (by decide +kernel) ⟨Nat.le_of_ble_eq_true rfl, Nat.le_of_ble_eq_true rfl⟩, rfl, hts _ (.tail _ qA_682)⟩ (cat_hi (Nat.le_refl _)) (cat_hi (Nat.le_refl _)) hl.1 (lv_room (Nat.le_of_ble_eq_true rfl)) dX11_init_57 ⟨Nat.le_of_ble_eq_true rfl, Nat.le_of_ble_eq_true rfl⟩ (fun b22 T23 H locs hb24 hT25 G => ?_)
  subst hb24
  rw [cat_cat, cat_cat] at G
  have G : cG D (cat 66 ad b22) 154 A s.heap H locs (cat 66 S T23) := G
  have h0 : cat 66 S T23 0 = .inr (11, [.ref (b2 0), .ref (b7 0), .ref (b12 0), .ref (b17 0), .null, .null, .null, .null, .null, .null, .null, .null, .null, .null, .null, .null, .int 0, .int 0, .int 0]) := (cat_lo (by decide)).trans h0
  have a0 := (cat_lo (N := 66) (g := b22) (show 0 < 66 by decide)).trans a0
  have h6 : cat 66 S T23 6 = .inr (3, [.ref (b2 0), .int 0, .int 0, .int (-1)]) := (cat_lo (by decide)).trans h6
  have a6 := (cat_lo (N := 66) (g := b22) (show 6 < 66 by decide)).trans a6
  have hBL := BL_push (b := b22) (T := T23) hBL (N := 66) (by decide +kernel) rfl hT25
  generalize cat 66 ad b22 = ad at G hBL h0 a0 h6 a6
  generalize cat 66 S T23 = S at G hBL h0 h6
  refine n_putF E G 0 4 h (fs := [.ref (b2 0), .ref (b7 0), .ref (b12 0), .ref (b17 0), .null, .null, .null, .null, .null, .null, .null, .null, .null, .null, .null, .null, .int 0, .int 0, .int 0]) (fs1 := [.ref (b2 0), .ref (b7 0), .ref (b12 0), .ref (b17 0), .ref (b22 0), .null, .null, .null, .null, .null, .null, .null, .null, .null, .null, .null, .int 0, .int 0, .int 0]) (by decide) a0 h0 rfl (fun w h => .tail _ (iA_23 h)) tyX11 tyX11_ok nmX11 (by decide) (.tail _ qA_660) ⟨rfl, rfl, rfl⟩ hin rfl rfl rfl (Nat.le_of_ble_eq_true rfl) rfl dX11_init_60 (fun H locs G => ?_)
  have hBL := BL_put (q := 0) (e := .inr (11, [.ref (b2 0), .ref (b7 0), .ref (b12 0), .ref (b17 0), .ref (b22 0), .null, .null, .null, .null, .null, .null, .null, .null, .null, .null, .null, .int 0, .int 0, .int 0])) hBL (by decide +kernel)
  have h6 := (va_up_ne S (.inr (11, [.ref (b2 0), .ref (b7 0), .ref (b12 0), .ref (b17 0), .ref (b22 0), .null, .null, .null, .null, .null, .null, .null, .null, .null, .null, .null, .int 0, .int 0, .int 0]) : va_E) (show 6 ≠ 0 by decide)).trans h6
  have h0 := va_up_self S 0 (.inr (11, [.ref (b2 0), .ref (b7 0), .ref (b12 0), .ref (b17 0), .ref (b22 0), .null, .null, .null, .null, .null, .null, .null, .null, .null, .null, .null, .int 0, .int 0, .int 0]) : va_E)
  generalize va_up S 0 (.inr (11, [.ref (b2 0), .ref (b7 0), .ref (b12 0), .ref (b17 0), .ref (b22 0), .null, .null, .null, .null, .null, .null, .null, .null, .null, .null, .null, .int 0, .int 0, .int 0])) = S at G hBL h0 h6
  refine lv_aload_n hx hb dX11_init_63 rfl (lv_at hl 0 rfl) ?_
  refine n_new E G hA (ci := 4) (fs := [.int 0, .null, .int 0, .int 0, .null, .null]) (fun w h => .tail _ (iA_21 h)) tyX4 tyX4_ok (.tail _ qA_658) (.tail _ qA_659) (.tail _ qA_426) rfl (by decide) (Nat.le_of_ble_eq_true rfl) (Nat.le_of_ble_eq_true rfl) dX11_init_64 (fun q26 H G => ?_)
  refine lv_dup hx hb dX11_init_67 rfl ?_
  refine n_initN (N := 154) E G hA hxs nX.moved hml (n_X4 l D cI cJ cZ cMic cSrc cSt cAI cAJ) ⟨va_cnB (host := "AcousticCamera") 0 hts (gaC qA_405) rfl rfl rfl (hxs.2.2.2.2.2 _ (List.mem_of_getElem? (i := 4) rfl)) (hts _ (.tail _ qA_426)) (by decide +kernel) ⟨Nat.le_of_ble_eq_true rfl, Nat.le_of_ble_eq_true rfl⟩, rfl, hts _ (.tail _ qA_682)⟩ (cat_hi (Nat.le_refl _)) (cat_hi (Nat.le_refl _)) hl.1 (lv_room (Nat.le_of_ble_eq_true rfl)) dX11_init_68 ⟨Nat.le_of_ble_eq_true rfl, Nat.le_of_ble_eq_true rfl⟩ (fun b27 T28 H locs hb29 hT30 G => ?_)
  subst hb29
  rw [cat_cat, cat_cat] at G
  have G : cG D (cat 154 ad b27) 242 A s.heap H locs (cat 154 S T28) := G
  have h0 : cat 154 S T28 0 = .inr (11, [.ref (b2 0), .ref (b7 0), .ref (b12 0), .ref (b17 0), .ref (b22 0), .null, .null, .null, .null, .null, .null, .null, .null, .null, .null, .null, .int 0, .int 0, .int 0]) := (cat_lo (by decide)).trans h0
  have a0 := (cat_lo (N := 154) (g := b27) (show 0 < 154 by decide)).trans a0
  have h6 : cat 154 S T28 6 = .inr (3, [.ref (b2 0), .int 0, .int 0, .int (-1)]) := (cat_lo (by decide)).trans h6
  have a6 := (cat_lo (N := 154) (g := b27) (show 6 < 154 by decide)).trans a6
  have hBL := BL_push (b := b27) (T := T28) hBL (N := 154) (by decide +kernel) rfl hT30
  generalize cat 154 ad b27 = ad at G hBL h0 a0 h6 a6
  generalize cat 154 S T28 = S at G hBL h0 h6
  refine n_putF E G 0 5 h (fs := [.ref (b2 0), .ref (b7 0), .ref (b12 0), .ref (b17 0), .ref (b22 0), .null, .null, .null, .null, .null, .null, .null, .null, .null, .null, .null, .int 0, .int 0, .int 0]) (fs1 := [.ref (b2 0), .ref (b7 0), .ref (b12 0), .ref (b17 0), .ref (b22 0), .ref (b27 0), .null, .null, .null, .null, .null, .null, .null, .null, .null, .null, .int 0, .int 0, .int 0]) (by decide) a0 h0 rfl (fun w h => .tail _ (iA_23 h)) tyX11 tyX11_ok nmX11 (by decide) (.tail _ qA_661) ⟨rfl, rfl, rfl⟩ hin rfl rfl rfl (Nat.le_of_ble_eq_true rfl) rfl dX11_init_71 (fun H locs G => ?_)
  have hBL := BL_put (q := 0) (e := .inr (11, [.ref (b2 0), .ref (b7 0), .ref (b12 0), .ref (b17 0), .ref (b22 0), .ref (b27 0), .null, .null, .null, .null, .null, .null, .null, .null, .null, .null, .int 0, .int 0, .int 0])) hBL (by decide +kernel)
  have h6 := (va_up_ne S (.inr (11, [.ref (b2 0), .ref (b7 0), .ref (b12 0), .ref (b17 0), .ref (b22 0), .ref (b27 0), .null, .null, .null, .null, .null, .null, .null, .null, .null, .null, .int 0, .int 0, .int 0]) : va_E) (show 6 ≠ 0 by decide)).trans h6
  have h0 := va_up_self S 0 (.inr (11, [.ref (b2 0), .ref (b7 0), .ref (b12 0), .ref (b17 0), .ref (b22 0), .ref (b27 0), .null, .null, .null, .null, .null, .null, .null, .null, .null, .null, .int 0, .int 0, .int 0]) : va_E)
  generalize va_up S 0 (.inr (11, [.ref (b2 0), .ref (b7 0), .ref (b12 0), .ref (b17 0), .ref (b22 0), .ref (b27 0), .null, .null, .null, .null, .null, .null, .null, .null, .null, .null, .int 0, .int 0, .int 0])) = S at G hBL h0 h6
  refine lv_aload_n hx hb dX11_init_74 rfl (lv_at hl 0 rfl) ?_
  refine n_new E G hA (ci := 8) (fs := [.int 0, .int 0, .int 0, .null, .null, .null, .null, .null, .null, .null, .null, .null]) (fun w h => .tail _ (iA_16 h)) tyX8 tyX8_ok (.tail _ qA_662) (.tail _ qA_663) (.tail _ qA_47) rfl (by decide) (Nat.le_of_ble_eq_true rfl) (Nat.le_of_ble_eq_true rfl) dX11_init_75 (fun q31 H G => ?_)
  refine lv_dup hx hb dX11_init_78 rfl ?_
  refine n_initN (N := 242) E G hA hxs nX.moved hml (n_X8 l D cI cJ cZ cMic cSrc cSt cAI cAJ) ⟨va_cnB (host := "AcousticCamera") 0 hts (gaC qA_582) rfl rfl rfl (hxs.2.2.2.2.2 _ (List.mem_of_getElem? (i := 5) rfl)) (hts _ (.tail _ qA_47)) (by decide +kernel) ⟨Nat.le_of_ble_eq_true rfl, Nat.le_of_ble_eq_true rfl⟩, rfl, hts _ (.tail _ qA_683)⟩ (cat_hi (Nat.le_refl _)) (cat_hi (Nat.le_refl _)) hl.1 (lv_room (Nat.le_of_ble_eq_true rfl)) dX11_init_79 ⟨Nat.le_of_ble_eq_true rfl, Nat.le_of_ble_eq_true rfl⟩ (fun b32 T33 H locs hb34 hT35 G => ?_)
  subst hb34
  rw [cat_cat, cat_cat] at G
  have G : cG D (cat 242 ad b32) 336 A s.heap H locs (cat 242 S T33) := G
  have h0 : cat 242 S T33 0 = .inr (11, [.ref (b2 0), .ref (b7 0), .ref (b12 0), .ref (b17 0), .ref (b22 0), .ref (b27 0), .null, .null, .null, .null, .null, .null, .null, .null, .null, .null, .int 0, .int 0, .int 0]) := (cat_lo (by decide)).trans h0
  have a0 := (cat_lo (N := 242) (g := b32) (show 0 < 242 by decide)).trans a0
  have h6 : cat 242 S T33 6 = .inr (3, [.ref (b2 0), .int 0, .int 0, .int (-1)]) := (cat_lo (by decide)).trans h6
  have a6 := (cat_lo (N := 242) (g := b32) (show 6 < 242 by decide)).trans a6
  have hBL := BL_push (b := b32) (T := T33) hBL (N := 242) (by decide +kernel) rfl hT35
  generalize cat 242 ad b32 = ad at G hBL h0 a0 h6 a6
  generalize cat 242 S T33 = S at G hBL h0 h6
  refine n_putF E G 0 6 h (fs := [.ref (b2 0), .ref (b7 0), .ref (b12 0), .ref (b17 0), .ref (b22 0), .ref (b27 0), .null, .null, .null, .null, .null, .null, .null, .null, .null, .null, .int 0, .int 0, .int 0]) (fs1 := [.ref (b2 0), .ref (b7 0), .ref (b12 0), .ref (b17 0), .ref (b22 0), .ref (b27 0), .ref (b32 0), .null, .null, .null, .null, .null, .null, .null, .null, .null, .int 0, .int 0, .int 0]) (by decide) a0 h0 rfl (fun w h => .tail _ (iA_23 h)) tyX11 tyX11_ok nmX11 (by decide) (.tail _ qA_664) ⟨rfl, rfl, rfl⟩ hin rfl rfl rfl (Nat.le_of_ble_eq_true rfl) rfl dX11_init_82 (fun H locs G => ?_)
  have hBL := BL_put (q := 0) (e := .inr (11, [.ref (b2 0), .ref (b7 0), .ref (b12 0), .ref (b17 0), .ref (b22 0), .ref (b27 0), .ref (b32 0), .null, .null, .null, .null, .null, .null, .null, .null, .null, .int 0, .int 0, .int 0])) hBL (by decide +kernel)
  have h6 := (va_up_ne S (.inr (11, [.ref (b2 0), .ref (b7 0), .ref (b12 0), .ref (b17 0), .ref (b22 0), .ref (b27 0), .ref (b32 0), .null, .null, .null, .null, .null, .null, .null, .null, .null, .int 0, .int 0, .int 0]) : va_E) (show 6 ≠ 0 by decide)).trans h6
  have h0 := va_up_self S 0 (.inr (11, [.ref (b2 0), .ref (b7 0), .ref (b12 0), .ref (b17 0), .ref (b22 0), .ref (b27 0), .ref (b32 0), .null, .null, .null, .null, .null, .null, .null, .null, .null, .int 0, .int 0, .int 0]) : va_E)
  generalize va_up S 0 (.inr (11, [.ref (b2 0), .ref (b7 0), .ref (b12 0), .ref (b17 0), .ref (b22 0), .ref (b27 0), .ref (b32 0), .null, .null, .null, .null, .null, .null, .null, .null, .null, .int 0, .int 0, .int 0])) = S at G hBL h0 h6
  refine lv_aload_n hx hb dX11_init_85 rfl (lv_at hl 0 rfl) ?_
  refine n_new E G hA (ci := 8) (fs := [.int 0, .int 0, .int 0, .null, .null, .null, .null, .null, .null, .null, .null, .null]) (fun w h => .tail _ (iA_16 h)) tyX8 tyX8_ok (.tail _ qA_662) (.tail _ qA_663) (.tail _ qA_47) rfl (by decide) (Nat.le_of_ble_eq_true rfl) (Nat.le_of_ble_eq_true rfl) dX11_init_86 (fun q36 H G => ?_)
  refine lv_dup hx hb dX11_init_89 rfl ?_
  refine n_initN (N := 336) E G hA hxs nX.moved hml (n_X8 l D cI cJ cZ cMic cSrc cSt cAI cAJ) ⟨va_cnB (host := "AcousticCamera") 0 hts (gaC qA_582) rfl rfl rfl (hxs.2.2.2.2.2 _ (List.mem_of_getElem? (i := 5) rfl)) (hts _ (.tail _ qA_47)) (by decide +kernel) ⟨Nat.le_of_ble_eq_true rfl, Nat.le_of_ble_eq_true rfl⟩, rfl, hts _ (.tail _ qA_683)⟩ (cat_hi (Nat.le_refl _)) (cat_hi (Nat.le_refl _)) hl.1 (lv_room (Nat.le_of_ble_eq_true rfl)) dX11_init_90 ⟨Nat.le_of_ble_eq_true rfl, Nat.le_of_ble_eq_true rfl⟩ (fun b37 T38 H locs hb39 hT40 G => ?_)
  subst hb39
  rw [cat_cat, cat_cat] at G
  have G : cG D (cat 336 ad b37) 430 A s.heap H locs (cat 336 S T38) := G
  have h0 : cat 336 S T38 0 = .inr (11, [.ref (b2 0), .ref (b7 0), .ref (b12 0), .ref (b17 0), .ref (b22 0), .ref (b27 0), .ref (b32 0), .null, .null, .null, .null, .null, .null, .null, .null, .null, .int 0, .int 0, .int 0]) := (cat_lo (by decide)).trans h0
  have a0 := (cat_lo (N := 336) (g := b37) (show 0 < 336 by decide)).trans a0
  have h6 : cat 336 S T38 6 = .inr (3, [.ref (b2 0), .int 0, .int 0, .int (-1)]) := (cat_lo (by decide)).trans h6
  have a6 := (cat_lo (N := 336) (g := b37) (show 6 < 336 by decide)).trans a6
  have hBL := BL_push (b := b37) (T := T38) hBL (N := 336) (by decide +kernel) rfl hT40
  generalize cat 336 ad b37 = ad at G hBL h0 a0 h6 a6
  generalize cat 336 S T38 = S at G hBL h0 h6
  refine n_putF E G 0 7 h (fs := [.ref (b2 0), .ref (b7 0), .ref (b12 0), .ref (b17 0), .ref (b22 0), .ref (b27 0), .ref (b32 0), .null, .null, .null, .null, .null, .null, .null, .null, .null, .int 0, .int 0, .int 0]) (fs1 := [.ref (b2 0), .ref (b7 0), .ref (b12 0), .ref (b17 0), .ref (b22 0), .ref (b27 0), .ref (b32 0), .ref (b37 0), .null, .null, .null, .null, .null, .null, .null, .null, .int 0, .int 0, .int 0]) (by decide) a0 h0 rfl (fun w h => .tail _ (iA_23 h)) tyX11 tyX11_ok nmX11 (by decide) (.tail _ qA_665) ⟨rfl, rfl, rfl⟩ hin rfl rfl rfl (Nat.le_of_ble_eq_true rfl) rfl dX11_init_93 (fun H locs G => ?_)
  have hBL := BL_put (q := 0) (e := .inr (11, [.ref (b2 0), .ref (b7 0), .ref (b12 0), .ref (b17 0), .ref (b22 0), .ref (b27 0), .ref (b32 0), .ref (b37 0), .null, .null, .null, .null, .null, .null, .null, .null, .int 0, .int 0, .int 0])) hBL (by decide +kernel)
  have h6 := (va_up_ne S (.inr (11, [.ref (b2 0), .ref (b7 0), .ref (b12 0), .ref (b17 0), .ref (b22 0), .ref (b27 0), .ref (b32 0), .ref (b37 0), .null, .null, .null, .null, .null, .null, .null, .null, .int 0, .int 0, .int 0]) : va_E) (show 6 ≠ 0 by decide)).trans h6
  have h0 := va_up_self S 0 (.inr (11, [.ref (b2 0), .ref (b7 0), .ref (b12 0), .ref (b17 0), .ref (b22 0), .ref (b27 0), .ref (b32 0), .ref (b37 0), .null, .null, .null, .null, .null, .null, .null, .null, .int 0, .int 0, .int 0]) : va_E)
  generalize va_up S 0 (.inr (11, [.ref (b2 0), .ref (b7 0), .ref (b12 0), .ref (b17 0), .ref (b22 0), .ref (b27 0), .ref (b32 0), .ref (b37 0), .null, .null, .null, .null, .null, .null, .null, .null, .int 0, .int 0, .int 0])) = S at G hBL h0 h6
  refine lv_aload_n hx hb dX11_init_96 rfl (lv_at hl 0 rfl) ?_
  refine lv_bipush (v := 6) hx hb dX11_init_97 (by decide) ?_
  refine n_newq E G hA 5 (C := "AcousticCamera$State") (K := 6) (.tail _ qA_662) hxs.2.2.1 rfl rfl rfl (by decide) (Nat.le_of_ble_eq_true rfl) (Nat.le_of_ble_eq_true rfl) dX11_init_99 (fun q41 H G => ?_)
  have h0 : cat 430 S (fun _ => .inl (cSt, 6, .inr (.inr (.inr (.inr (fun _ => none)))))) 0 = .inr (11, [.ref (b2 0), .ref (b7 0), .ref (b12 0), .ref (b17 0), .ref (b22 0), .ref (b27 0), .ref (b32 0), .ref (b37 0), .null, .null, .null, .null, .null, .null, .null, .null, .int 0, .int 0, .int 0]) := (cat_lo (by decide)).trans h0
  have a0 := (cat_lo (N := 430) (g := (fun _ => q41)) (show 0 < 430 by decide)).trans a0
  have h6 : cat 430 S (fun _ => .inl (cSt, 6, .inr (.inr (.inr (.inr (fun _ => none)))))) 6 = .inr (3, [.ref (b2 0), .int 0, .int 0, .int (-1)]) := (cat_lo (by decide)).trans h6
  have a6 := (cat_lo (N := 430) (g := (fun _ => q41)) (show 6 < 430 by decide)).trans a6
  have hBL := BL_skip (g1 := (fun _ => q41)) (g2 := (fun _ => .inl (cSt, 6, .inr (.inr (.inr (.inr (fun _ => none))))))) hBL (N := 430) (by decide +kernel)
  have h430 : cat 430 S (fun _ => .inl (cSt, 6, .inr (.inr (.inr (.inr (fun _ => none)))))) 430 = .inl (cSt, 6, .inr (.inr (.inr (.inr (fun _ => none))))) := cat_hi (Nat.le_refl _)
  have a430 : cat 430 ad (fun _ => q41) 430 = q41 := cat_hi (Nat.le_refl _)
  generalize cat 430 ad (fun _ => q41) = ad at G hBL h0 a0 h6 a6 h430 a430
  generalize cat 430 S (fun _ => .inl (cSt, 6, .inr (.inr (.inr (.inr (fun _ => none)))))) = S at G hBL h0 h6 h430
  refine n_putF E G 0 8 h (fs := [.ref (b2 0), .ref (b7 0), .ref (b12 0), .ref (b17 0), .ref (b22 0), .ref (b27 0), .ref (b32 0), .ref (b37 0), .null, .null, .null, .null, .null, .null, .null, .null, .int 0, .int 0, .int 0]) (fs1 := [.ref (b2 0), .ref (b7 0), .ref (b12 0), .ref (b17 0), .ref (b22 0), .ref (b27 0), .ref (b32 0), .ref (b37 0), .ref q41, .null, .null, .null, .null, .null, .null, .null, .int 0, .int 0, .int 0]) (by decide) a0 h0 rfl (fun w h => .tail _ (iA_23 h)) tyX11 tyX11_ok nmX11 (by decide) (.tail _ qA_666) ⟨rfl, rfl, rfl⟩ hin rfl rfl rfl (Nat.le_of_ble_eq_true rfl) rfl dX11_init_102 (fun H locs G => ?_)
  have hBL := BL_put (q := 0) (e := .inr (11, [.ref (b2 0), .ref (b7 0), .ref (b12 0), .ref (b17 0), .ref (b22 0), .ref (b27 0), .ref (b32 0), .ref (b37 0), .ref q41, .null, .null, .null, .null, .null, .null, .null, .int 0, .int 0, .int 0])) hBL (by decide +kernel)
  have h6 := (va_up_ne S (.inr (11, [.ref (b2 0), .ref (b7 0), .ref (b12 0), .ref (b17 0), .ref (b22 0), .ref (b27 0), .ref (b32 0), .ref (b37 0), .ref q41, .null, .null, .null, .null, .null, .null, .null, .int 0, .int 0, .int 0]) : va_E) (show 6 ≠ 0 by decide)).trans h6
  have h430 := (va_up_ne S (.inr (11, [.ref (b2 0), .ref (b7 0), .ref (b12 0), .ref (b17 0), .ref (b22 0), .ref (b27 0), .ref (b32 0), .ref (b37 0), .ref q41, .null, .null, .null, .null, .null, .null, .null, .int 0, .int 0, .int 0]) : va_E) (show 430 ≠ 0 by decide)).trans h430
  have h0 := va_up_self S 0 (.inr (11, [.ref (b2 0), .ref (b7 0), .ref (b12 0), .ref (b17 0), .ref (b22 0), .ref (b27 0), .ref (b32 0), .ref (b37 0), .ref q41, .null, .null, .null, .null, .null, .null, .null, .int 0, .int 0, .int 0]) : va_E)
  generalize va_up S 0 (.inr (11, [.ref (b2 0), .ref (b7 0), .ref (b12 0), .ref (b17 0), .ref (b22 0), .ref (b27 0), .ref (b32 0), .ref (b37 0), .ref q41, .null, .null, .null, .null, .null, .null, .null, .int 0, .int 0, .int 0])) = S at G hBL h0 h6 h430
  refine lv_aload_n hx hb dX11_init_105 rfl (lv_at hl 0 rfl) ?_
  refine lv_iconst (v := 2) hx hb dX11_init_106 (by decide) ?_
  refine n_newq E G hA 5 (C := "AcousticCamera$State") (K := 2) (.tail _ qA_662) hxs.2.2.1 rfl rfl rfl (by decide) (Nat.le_of_ble_eq_true rfl) (Nat.le_of_ble_eq_true rfl) dX11_init_107 (fun q42 H G => ?_)
  have h0 : cat 431 S (fun _ => .inl (cSt, 2, .inr (.inr (.inr (.inr (fun _ => none)))))) 0 = .inr (11, [.ref (b2 0), .ref (b7 0), .ref (b12 0), .ref (b17 0), .ref (b22 0), .ref (b27 0), .ref (b32 0), .ref (b37 0), .ref q41, .null, .null, .null, .null, .null, .null, .null, .int 0, .int 0, .int 0]) := (cat_lo (by decide)).trans h0
  have a0 := (cat_lo (N := 431) (g := (fun _ => q42)) (show 0 < 431 by decide)).trans a0
  have h6 : cat 431 S (fun _ => .inl (cSt, 2, .inr (.inr (.inr (.inr (fun _ => none)))))) 6 = .inr (3, [.ref (b2 0), .int 0, .int 0, .int (-1)]) := (cat_lo (by decide)).trans h6
  have a6 := (cat_lo (N := 431) (g := (fun _ => q42)) (show 6 < 431 by decide)).trans a6
  have h430 : cat 431 S (fun _ => .inl (cSt, 2, .inr (.inr (.inr (.inr (fun _ => none)))))) 430 = .inl (cSt, 6, .inr (.inr (.inr (.inr (fun _ => none))))) := (cat_lo (by decide)).trans h430
  have a430 := (cat_lo (N := 431) (g := (fun _ => q42)) (show 430 < 431 by decide)).trans a430
  have hBL := BL_skip (g1 := (fun _ => q42)) (g2 := (fun _ => .inl (cSt, 2, .inr (.inr (.inr (.inr (fun _ => none))))))) hBL (N := 431) (by decide +kernel)
  have h431 : cat 431 S (fun _ => .inl (cSt, 2, .inr (.inr (.inr (.inr (fun _ => none)))))) 431 = .inl (cSt, 2, .inr (.inr (.inr (.inr (fun _ => none))))) := cat_hi (Nat.le_refl _)
  have a431 : cat 431 ad (fun _ => q42) 431 = q42 := cat_hi (Nat.le_refl _)
  generalize cat 431 ad (fun _ => q42) = ad at G hBL h0 a0 h6 a6 h430 a430 h431 a431
  generalize cat 431 S (fun _ => .inl (cSt, 2, .inr (.inr (.inr (.inr (fun _ => none)))))) = S at G hBL h0 h6 h430 h431
  refine n_putF E G 0 9 h (fs := [.ref (b2 0), .ref (b7 0), .ref (b12 0), .ref (b17 0), .ref (b22 0), .ref (b27 0), .ref (b32 0), .ref (b37 0), .ref q41, .null, .null, .null, .null, .null, .null, .null, .int 0, .int 0, .int 0]) (fs1 := [.ref (b2 0), .ref (b7 0), .ref (b12 0), .ref (b17 0), .ref (b22 0), .ref (b27 0), .ref (b32 0), .ref (b37 0), .ref q41, .ref q42, .null, .null, .null, .null, .null, .null, .int 0, .int 0, .int 0]) (by decide) a0 h0 rfl (fun w h => .tail _ (iA_23 h)) tyX11 tyX11_ok nmX11 (by decide) (.tail _ qA_667) ⟨rfl, rfl, rfl⟩ hin rfl rfl rfl (Nat.le_of_ble_eq_true rfl) rfl dX11_init_110 (fun H locs G => ?_)
  have hBL := BL_put (q := 0) (e := .inr (11, [.ref (b2 0), .ref (b7 0), .ref (b12 0), .ref (b17 0), .ref (b22 0), .ref (b27 0), .ref (b32 0), .ref (b37 0), .ref q41, .ref q42, .null, .null, .null, .null, .null, .null, .int 0, .int 0, .int 0])) hBL (by decide +kernel)
  have h6 := (va_up_ne S (.inr (11, [.ref (b2 0), .ref (b7 0), .ref (b12 0), .ref (b17 0), .ref (b22 0), .ref (b27 0), .ref (b32 0), .ref (b37 0), .ref q41, .ref q42, .null, .null, .null, .null, .null, .null, .int 0, .int 0, .int 0]) : va_E) (show 6 ≠ 0 by decide)).trans h6
  have h430 := (va_up_ne S (.inr (11, [.ref (b2 0), .ref (b7 0), .ref (b12 0), .ref (b17 0), .ref (b22 0), .ref (b27 0), .ref (b32 0), .ref (b37 0), .ref q41, .ref q42, .null, .null, .null, .null, .null, .null, .int 0, .int 0, .int 0]) : va_E) (show 430 ≠ 0 by decide)).trans h430
  have h431 := (va_up_ne S (.inr (11, [.ref (b2 0), .ref (b7 0), .ref (b12 0), .ref (b17 0), .ref (b22 0), .ref (b27 0), .ref (b32 0), .ref (b37 0), .ref q41, .ref q42, .null, .null, .null, .null, .null, .null, .int 0, .int 0, .int 0]) : va_E) (show 431 ≠ 0 by decide)).trans h431
  have h0 := va_up_self S 0 (.inr (11, [.ref (b2 0), .ref (b7 0), .ref (b12 0), .ref (b17 0), .ref (b22 0), .ref (b27 0), .ref (b32 0), .ref (b37 0), .ref q41, .ref q42, .null, .null, .null, .null, .null, .null, .int 0, .int 0, .int 0]) : va_E)
  generalize va_up S 0 (.inr (11, [.ref (b2 0), .ref (b7 0), .ref (b12 0), .ref (b17 0), .ref (b22 0), .ref (b27 0), .ref (b32 0), .ref (b37 0), .ref q41, .ref q42, .null, .null, .null, .null, .null, .null, .int 0, .int 0, .int 0])) = S at G hBL h0 h6 h430 h431
  refine lv_aload_n hx hb dX11_init_113 rfl (lv_at hl 0 rfl) ?_
  refine lv_iconst (v := 2) hx hb dX11_init_114 (by decide) ?_
  refine n_newz E G hA 2 (K := 2) (.tail _ qA_584) rfl rfl (by decide) (Nat.le_of_ble_eq_true rfl) (Nat.le_of_ble_eq_true rfl) dX11_init_115 (fun q43 H G => ?_)
  have h0 : cat 432 S (fun _ => .inl (cZ, 2, .inl (fun _ => 0))) 0 = .inr (11, [.ref (b2 0), .ref (b7 0), .ref (b12 0), .ref (b17 0), .ref (b22 0), .ref (b27 0), .ref (b32 0), .ref (b37 0), .ref q41, .ref q42, .null, .null, .null, .null, .null, .null, .int 0, .int 0, .int 0]) := (cat_lo (by decide)).trans h0
  have a0 := (cat_lo (N := 432) (g := (fun _ => q43)) (show 0 < 432 by decide)).trans a0
  have h6 : cat 432 S (fun _ => .inl (cZ, 2, .inl (fun _ => 0))) 6 = .inr (3, [.ref (b2 0), .int 0, .int 0, .int (-1)]) := (cat_lo (by decide)).trans h6
  have a6 := (cat_lo (N := 432) (g := (fun _ => q43)) (show 6 < 432 by decide)).trans a6
  have h430 : cat 432 S (fun _ => .inl (cZ, 2, .inl (fun _ => 0))) 430 = .inl (cSt, 6, .inr (.inr (.inr (.inr (fun _ => none))))) := (cat_lo (by decide)).trans h430
  have a430 := (cat_lo (N := 432) (g := (fun _ => q43)) (show 430 < 432 by decide)).trans a430
  have h431 : cat 432 S (fun _ => .inl (cZ, 2, .inl (fun _ => 0))) 431 = .inl (cSt, 2, .inr (.inr (.inr (.inr (fun _ => none))))) := (cat_lo (by decide)).trans h431
  have a431 := (cat_lo (N := 432) (g := (fun _ => q43)) (show 431 < 432 by decide)).trans a431
  have hBL := BL_push (b := (fun _ => q43)) (T := (fun _ => .inl (cZ, 2, .inl (fun _ => 0)))) hBL (N := 432) (by decide +kernel) rfl (fun _ _ => rfl)
  generalize cat 432 ad (fun _ => q43) = ad at G hBL h0 a0 h6 a6 h430 a430 h431 a431
  generalize cat 432 S (fun _ => .inl (cZ, 2, .inl (fun _ => 0))) = S at G hBL h0 h6 h430 h431
  refine n_putF E G 0 10 h (fs := [.ref (b2 0), .ref (b7 0), .ref (b12 0), .ref (b17 0), .ref (b22 0), .ref (b27 0), .ref (b32 0), .ref (b37 0), .ref q41, .ref q42, .null, .null, .null, .null, .null, .null, .int 0, .int 0, .int 0]) (fs1 := [.ref (b2 0), .ref (b7 0), .ref (b12 0), .ref (b17 0), .ref (b22 0), .ref (b27 0), .ref (b32 0), .ref (b37 0), .ref q41, .ref q42, .ref q43, .null, .null, .null, .null, .null, .int 0, .int 0, .int 0]) (by decide) a0 h0 rfl (fun w h => .tail _ (iA_23 h)) tyX11 tyX11_ok nmX11 (by decide) (.tail _ qA_668) ⟨rfl, rfl, rfl⟩ hin rfl rfl rfl (Nat.le_of_ble_eq_true rfl) rfl dX11_init_117 (fun H locs G => ?_)
  have hBL := BL_put (q := 0) (e := .inr (11, [.ref (b2 0), .ref (b7 0), .ref (b12 0), .ref (b17 0), .ref (b22 0), .ref (b27 0), .ref (b32 0), .ref (b37 0), .ref q41, .ref q42, .ref q43, .null, .null, .null, .null, .null, .int 0, .int 0, .int 0])) hBL (by decide +kernel)
  have h6 := (va_up_ne S (.inr (11, [.ref (b2 0), .ref (b7 0), .ref (b12 0), .ref (b17 0), .ref (b22 0), .ref (b27 0), .ref (b32 0), .ref (b37 0), .ref q41, .ref q42, .ref q43, .null, .null, .null, .null, .null, .int 0, .int 0, .int 0]) : va_E) (show 6 ≠ 0 by decide)).trans h6
  have h430 := (va_up_ne S (.inr (11, [.ref (b2 0), .ref (b7 0), .ref (b12 0), .ref (b17 0), .ref (b22 0), .ref (b27 0), .ref (b32 0), .ref (b37 0), .ref q41, .ref q42, .ref q43, .null, .null, .null, .null, .null, .int 0, .int 0, .int 0]) : va_E) (show 430 ≠ 0 by decide)).trans h430
  have h431 := (va_up_ne S (.inr (11, [.ref (b2 0), .ref (b7 0), .ref (b12 0), .ref (b17 0), .ref (b22 0), .ref (b27 0), .ref (b32 0), .ref (b37 0), .ref q41, .ref q42, .ref q43, .null, .null, .null, .null, .null, .int 0, .int 0, .int 0]) : va_E) (show 431 ≠ 0 by decide)).trans h431
  have h0 := va_up_self S 0 (.inr (11, [.ref (b2 0), .ref (b7 0), .ref (b12 0), .ref (b17 0), .ref (b22 0), .ref (b27 0), .ref (b32 0), .ref (b37 0), .ref q41, .ref q42, .ref q43, .null, .null, .null, .null, .null, .int 0, .int 0, .int 0]) : va_E)
  generalize va_up S 0 (.inr (11, [.ref (b2 0), .ref (b7 0), .ref (b12 0), .ref (b17 0), .ref (b22 0), .ref (b27 0), .ref (b32 0), .ref (b37 0), .ref q41, .ref q42, .ref q43, .null, .null, .null, .null, .null, .int 0, .int 0, .int 0])) = S at G hBL h0 h6 h430 h431
  refine lv_aload_n hx hb dX11_init_120 rfl (lv_at hl 0 rfl) ?_
  refine lv_bipush (v := 12) hx hb dX11_init_121 (by decide) ?_
  refine n_newi E G hA 0 (K := 12) (.tail _ qA_157) rfl rfl (by decide) (Nat.le_of_ble_eq_true rfl) (Nat.le_of_ble_eq_true rfl) dX11_init_123 (fun q44 H G => ?_)
  have h0 : cat 433 S (fun _ => .inl (cI, 12, .inl (fun _ => 0))) 0 = .inr (11, [.ref (b2 0), .ref (b7 0), .ref (b12 0), .ref (b17 0), .ref (b22 0), .ref (b27 0), .ref (b32 0), .ref (b37 0), .ref q41, .ref q42, .ref q43, .null, .null, .null, .null, .null, .int 0, .int 0, .int 0]) := (cat_lo (by decide)).trans h0
  have a0 := (cat_lo (N := 433) (g := (fun _ => q44)) (show 0 < 433 by decide)).trans a0
  have h6 : cat 433 S (fun _ => .inl (cI, 12, .inl (fun _ => 0))) 6 = .inr (3, [.ref (b2 0), .int 0, .int 0, .int (-1)]) := (cat_lo (by decide)).trans h6
  have a6 := (cat_lo (N := 433) (g := (fun _ => q44)) (show 6 < 433 by decide)).trans a6
  have h430 : cat 433 S (fun _ => .inl (cI, 12, .inl (fun _ => 0))) 430 = .inl (cSt, 6, .inr (.inr (.inr (.inr (fun _ => none))))) := (cat_lo (by decide)).trans h430
  have a430 := (cat_lo (N := 433) (g := (fun _ => q44)) (show 430 < 433 by decide)).trans a430
  have h431 : cat 433 S (fun _ => .inl (cI, 12, .inl (fun _ => 0))) 431 = .inl (cSt, 2, .inr (.inr (.inr (.inr (fun _ => none))))) := (cat_lo (by decide)).trans h431
  have a431 := (cat_lo (N := 433) (g := (fun _ => q44)) (show 431 < 433 by decide)).trans a431
  have hBL := BL_push (b := (fun _ => q44)) (T := (fun _ => .inl (cI, 12, .inl (fun _ => 0)))) hBL (N := 433) (by decide +kernel) rfl (fun _ _ => rfl)
  generalize cat 433 ad (fun _ => q44) = ad at G hBL h0 a0 h6 a6 h430 a430 h431 a431
  generalize cat 433 S (fun _ => .inl (cI, 12, .inl (fun _ => 0))) = S at G hBL h0 h6 h430 h431
  refine n_putF E G 0 11 h (fs := [.ref (b2 0), .ref (b7 0), .ref (b12 0), .ref (b17 0), .ref (b22 0), .ref (b27 0), .ref (b32 0), .ref (b37 0), .ref q41, .ref q42, .ref q43, .null, .null, .null, .null, .null, .int 0, .int 0, .int 0]) (fs1 := [.ref (b2 0), .ref (b7 0), .ref (b12 0), .ref (b17 0), .ref (b22 0), .ref (b27 0), .ref (b32 0), .ref (b37 0), .ref q41, .ref q42, .ref q43, .ref q44, .null, .null, .null, .null, .int 0, .int 0, .int 0]) (by decide) a0 h0 rfl (fun w h => .tail _ (iA_23 h)) tyX11 tyX11_ok nmX11 (by decide) (.tail _ qA_669) ⟨rfl, rfl, rfl⟩ hin rfl rfl rfl (Nat.le_of_ble_eq_true rfl) rfl dX11_init_125 (fun H locs G => ?_)
  have hBL := BL_put (q := 0) (e := .inr (11, [.ref (b2 0), .ref (b7 0), .ref (b12 0), .ref (b17 0), .ref (b22 0), .ref (b27 0), .ref (b32 0), .ref (b37 0), .ref q41, .ref q42, .ref q43, .ref q44, .null, .null, .null, .null, .int 0, .int 0, .int 0])) hBL (by decide +kernel)
  have h6 := (va_up_ne S (.inr (11, [.ref (b2 0), .ref (b7 0), .ref (b12 0), .ref (b17 0), .ref (b22 0), .ref (b27 0), .ref (b32 0), .ref (b37 0), .ref q41, .ref q42, .ref q43, .ref q44, .null, .null, .null, .null, .int 0, .int 0, .int 0]) : va_E) (show 6 ≠ 0 by decide)).trans h6
  have h430 := (va_up_ne S (.inr (11, [.ref (b2 0), .ref (b7 0), .ref (b12 0), .ref (b17 0), .ref (b22 0), .ref (b27 0), .ref (b32 0), .ref (b37 0), .ref q41, .ref q42, .ref q43, .ref q44, .null, .null, .null, .null, .int 0, .int 0, .int 0]) : va_E) (show 430 ≠ 0 by decide)).trans h430
  have h431 := (va_up_ne S (.inr (11, [.ref (b2 0), .ref (b7 0), .ref (b12 0), .ref (b17 0), .ref (b22 0), .ref (b27 0), .ref (b32 0), .ref (b37 0), .ref q41, .ref q42, .ref q43, .ref q44, .null, .null, .null, .null, .int 0, .int 0, .int 0]) : va_E) (show 431 ≠ 0 by decide)).trans h431
  have h0 := va_up_self S 0 (.inr (11, [.ref (b2 0), .ref (b7 0), .ref (b12 0), .ref (b17 0), .ref (b22 0), .ref (b27 0), .ref (b32 0), .ref (b37 0), .ref q41, .ref q42, .ref q43, .ref q44, .null, .null, .null, .null, .int 0, .int 0, .int 0]) : va_E)
  generalize va_up S 0 (.inr (11, [.ref (b2 0), .ref (b7 0), .ref (b12 0), .ref (b17 0), .ref (b22 0), .ref (b27 0), .ref (b32 0), .ref (b37 0), .ref q41, .ref q42, .ref q43, .ref q44, .null, .null, .null, .null, .int 0, .int 0, .int 0])) = S at G hBL h0 h6 h430 h431
  refine lv_aload_n hx hb dX11_init_128 rfl (lv_at hl 0 rfl) ?_
  refine n_new E G hA (ci := 10) (fs := [.int 0, .null, .int 0]) (fun w h => .tail _ (iA_12 h)) tyX10 tyX10_ok (.tail _ qA_670) (.tail _ qA_5) (.tail _ qA_6) rfl (by decide) (Nat.le_of_ble_eq_true rfl) (Nat.le_of_ble_eq_true rfl) dX11_init_129 (fun q45 H G => ?_)
  refine lv_dup hx hb dX11_init_132 rfl ?_
  refine lv_bipush (v := 12) hx hb dX11_init_133 (by decide) ?_
  refine n_initA (As := [.int 12]) (rest := [.ref q45, .ref h]) (N := 434) E G hA hxs nX.moved hml (n_X10_12 l D cI cJ cZ cMic cSrc cSt cAI cAJ) (cwI 1 hts (gaC qA_10) rfl rfl rfl (hts _ (.tail _ qA_6)) (hts _ (.tail _ qA_684)) (hts _ (.tail _ qA_9)) rfl (by decide +kernel) ⟨Nat.le_of_ble_eq_true rfl, Nat.le_of_ble_eq_true rfl⟩) (cat_hi (Nat.le_refl _)) (cat_hi (Nat.le_refl _)) rfl hl.1 rfl (lv_room (Nat.le_of_ble_eq_true rfl)) dX11_init_135 ⟨Nat.le_of_ble_eq_true rfl, Nat.le_of_ble_eq_true rfl⟩ (fun b46 T47 H locs hb48 hT49 G => ?_)
  subst hb48
  rw [cat_cat, cat_cat] at G
  have G : cG D (cat 434 ad b46) 477 A s.heap H locs (cat 434 S T47) := G
  have h0 : cat 434 S T47 0 = .inr (11, [.ref (b2 0), .ref (b7 0), .ref (b12 0), .ref (b17 0), .ref (b22 0), .ref (b27 0), .ref (b32 0), .ref (b37 0), .ref q41, .ref q42, .ref q43, .ref q44, .null, .null, .null, .null, .int 0, .int 0, .int 0]) := (cat_lo (by decide)).trans h0
  have a0 := (cat_lo (N := 434) (g := b46) (show 0 < 434 by decide)).trans a0
  have h6 : cat 434 S T47 6 = .inr (3, [.ref (b2 0), .int 0, .int 0, .int (-1)]) := (cat_lo (by decide)).trans h6
  have a6 := (cat_lo (N := 434) (g := b46) (show 6 < 434 by decide)).trans a6
  have h430 : cat 434 S T47 430 = .inl (cSt, 6, .inr (.inr (.inr (.inr (fun _ => none))))) := (cat_lo (by decide)).trans h430
  have a430 := (cat_lo (N := 434) (g := b46) (show 430 < 434 by decide)).trans a430
  have h431 : cat 434 S T47 431 = .inl (cSt, 2, .inr (.inr (.inr (.inr (fun _ => none))))) := (cat_lo (by decide)).trans h431
  have a431 := (cat_lo (N := 434) (g := b46) (show 431 < 434 by decide)).trans a431
  have hBL := BL_push (b := b46) (T := T47) hBL (N := 434) (by decide +kernel) rfl hT49
  generalize cat 434 ad b46 = ad at G hBL h0 a0 h6 a6 h430 a430 h431 a431
  generalize cat 434 S T47 = S at G hBL h0 h6 h430 h431
  refine n_putF E G 0 12 h (fs := [.ref (b2 0), .ref (b7 0), .ref (b12 0), .ref (b17 0), .ref (b22 0), .ref (b27 0), .ref (b32 0), .ref (b37 0), .ref q41, .ref q42, .ref q43, .ref q44, .null, .null, .null, .null, .int 0, .int 0, .int 0]) (fs1 := [.ref (b2 0), .ref (b7 0), .ref (b12 0), .ref (b17 0), .ref (b22 0), .ref (b27 0), .ref (b32 0), .ref (b37 0), .ref q41, .ref q42, .ref q43, .ref q44, .ref (b46 0), .null, .null, .null, .int 0, .int 0, .int 0]) (by decide) a0 h0 rfl (fun w h => .tail _ (iA_23 h)) tyX11 tyX11_ok nmX11 (by decide) (.tail _ qA_671) ⟨rfl, rfl, rfl⟩ hin rfl rfl rfl (Nat.le_of_ble_eq_true rfl) rfl dX11_init_138 (fun H locs G => ?_)
  have hBL := BL_put (q := 0) (e := .inr (11, [.ref (b2 0), .ref (b7 0), .ref (b12 0), .ref (b17 0), .ref (b22 0), .ref (b27 0), .ref (b32 0), .ref (b37 0), .ref q41, .ref q42, .ref q43, .ref q44, .ref (b46 0), .null, .null, .null, .int 0, .int 0, .int 0])) hBL (by decide +kernel)
  have h6 := (va_up_ne S (.inr (11, [.ref (b2 0), .ref (b7 0), .ref (b12 0), .ref (b17 0), .ref (b22 0), .ref (b27 0), .ref (b32 0), .ref (b37 0), .ref q41, .ref q42, .ref q43, .ref q44, .ref (b46 0), .null, .null, .null, .int 0, .int 0, .int 0]) : va_E) (show 6 ≠ 0 by decide)).trans h6
  have h430 := (va_up_ne S (.inr (11, [.ref (b2 0), .ref (b7 0), .ref (b12 0), .ref (b17 0), .ref (b22 0), .ref (b27 0), .ref (b32 0), .ref (b37 0), .ref q41, .ref q42, .ref q43, .ref q44, .ref (b46 0), .null, .null, .null, .int 0, .int 0, .int 0]) : va_E) (show 430 ≠ 0 by decide)).trans h430
  have h431 := (va_up_ne S (.inr (11, [.ref (b2 0), .ref (b7 0), .ref (b12 0), .ref (b17 0), .ref (b22 0), .ref (b27 0), .ref (b32 0), .ref (b37 0), .ref q41, .ref q42, .ref q43, .ref q44, .ref (b46 0), .null, .null, .null, .int 0, .int 0, .int 0]) : va_E) (show 431 ≠ 0 by decide)).trans h431
  have h0 := va_up_self S 0 (.inr (11, [.ref (b2 0), .ref (b7 0), .ref (b12 0), .ref (b17 0), .ref (b22 0), .ref (b27 0), .ref (b32 0), .ref (b37 0), .ref q41, .ref q42, .ref q43, .ref q44, .ref (b46 0), .null, .null, .null, .int 0, .int 0, .int 0]) : va_E)
  generalize va_up S 0 (.inr (11, [.ref (b2 0), .ref (b7 0), .ref (b12 0), .ref (b17 0), .ref (b22 0), .ref (b27 0), .ref (b32 0), .ref (b37 0), .ref q41, .ref q42, .ref q43, .ref q44, .ref (b46 0), .null, .null, .null, .int 0, .int 0, .int 0])) = S at G hBL h0 h6 h430 h431
  refine lv_aload_n hx hb dX11_init_141 rfl (lv_at hl 0 rfl) ?_
  refine lv_sipush (v := 155) hx hb dX11_init_142 (by decide) ?_
  refine n_newi E G hA 0 (K := 155) (.tail _ qA_157) rfl rfl (by decide) (Nat.le_of_ble_eq_true rfl) (Nat.le_of_ble_eq_true rfl) dX11_init_145 (fun q50 H G => ?_)
  have h0 : cat 477 S (fun _ => .inl (cI, 155, .inl (fun _ => 0))) 0 = .inr (11, [.ref (b2 0), .ref (b7 0), .ref (b12 0), .ref (b17 0), .ref (b22 0), .ref (b27 0), .ref (b32 0), .ref (b37 0), .ref q41, .ref q42, .ref q43, .ref q44, .ref (b46 0), .null, .null, .null, .int 0, .int 0, .int 0]) := (cat_lo (by decide)).trans h0
  have a0 := (cat_lo (N := 477) (g := (fun _ => q50)) (show 0 < 477 by decide)).trans a0
  have h6 : cat 477 S (fun _ => .inl (cI, 155, .inl (fun _ => 0))) 6 = .inr (3, [.ref (b2 0), .int 0, .int 0, .int (-1)]) := (cat_lo (by decide)).trans h6
  have a6 := (cat_lo (N := 477) (g := (fun _ => q50)) (show 6 < 477 by decide)).trans a6
  have h430 : cat 477 S (fun _ => .inl (cI, 155, .inl (fun _ => 0))) 430 = .inl (cSt, 6, .inr (.inr (.inr (.inr (fun _ => none))))) := (cat_lo (by decide)).trans h430
  have a430 := (cat_lo (N := 477) (g := (fun _ => q50)) (show 430 < 477 by decide)).trans a430
  have h431 : cat 477 S (fun _ => .inl (cI, 155, .inl (fun _ => 0))) 431 = .inl (cSt, 2, .inr (.inr (.inr (.inr (fun _ => none))))) := (cat_lo (by decide)).trans h431
  have a431 := (cat_lo (N := 477) (g := (fun _ => q50)) (show 431 < 477 by decide)).trans a431
  have hBL := BL_push (b := (fun _ => q50)) (T := (fun _ => .inl (cI, 155, .inl (fun _ => 0)))) hBL (N := 477) (by decide +kernel) rfl (fun _ _ => rfl)
  generalize cat 477 ad (fun _ => q50) = ad at G hBL h0 a0 h6 a6 h430 a430 h431 a431
  generalize cat 477 S (fun _ => .inl (cI, 155, .inl (fun _ => 0))) = S at G hBL h0 h6 h430 h431
  refine n_putF E G 0 13 h (fs := [.ref (b2 0), .ref (b7 0), .ref (b12 0), .ref (b17 0), .ref (b22 0), .ref (b27 0), .ref (b32 0), .ref (b37 0), .ref q41, .ref q42, .ref q43, .ref q44, .ref (b46 0), .null, .null, .null, .int 0, .int 0, .int 0]) (fs1 := [.ref (b2 0), .ref (b7 0), .ref (b12 0), .ref (b17 0), .ref (b22 0), .ref (b27 0), .ref (b32 0), .ref (b37 0), .ref q41, .ref q42, .ref q43, .ref q44, .ref (b46 0), .ref q50, .null, .null, .int 0, .int 0, .int 0]) (by decide) a0 h0 rfl (fun w h => .tail _ (iA_23 h)) tyX11 tyX11_ok nmX11 (by decide) (.tail _ qA_672) ⟨rfl, rfl, rfl⟩ hin rfl rfl rfl (Nat.le_of_ble_eq_true rfl) rfl dX11_init_147 (fun H locs G => ?_)
  have hBL := BL_put (q := 0) (e := .inr (11, [.ref (b2 0), .ref (b7 0), .ref (b12 0), .ref (b17 0), .ref (b22 0), .ref (b27 0), .ref (b32 0), .ref (b37 0), .ref q41, .ref q42, .ref q43, .ref q44, .ref (b46 0), .ref q50, .null, .null, .int 0, .int 0, .int 0])) hBL (by decide +kernel)
  have h6 := (va_up_ne S (.inr (11, [.ref (b2 0), .ref (b7 0), .ref (b12 0), .ref (b17 0), .ref (b22 0), .ref (b27 0), .ref (b32 0), .ref (b37 0), .ref q41, .ref q42, .ref q43, .ref q44, .ref (b46 0), .ref q50, .null, .null, .int 0, .int 0, .int 0]) : va_E) (show 6 ≠ 0 by decide)).trans h6
  have h430 := (va_up_ne S (.inr (11, [.ref (b2 0), .ref (b7 0), .ref (b12 0), .ref (b17 0), .ref (b22 0), .ref (b27 0), .ref (b32 0), .ref (b37 0), .ref q41, .ref q42, .ref q43, .ref q44, .ref (b46 0), .ref q50, .null, .null, .int 0, .int 0, .int 0]) : va_E) (show 430 ≠ 0 by decide)).trans h430
  have h431 := (va_up_ne S (.inr (11, [.ref (b2 0), .ref (b7 0), .ref (b12 0), .ref (b17 0), .ref (b22 0), .ref (b27 0), .ref (b32 0), .ref (b37 0), .ref q41, .ref q42, .ref q43, .ref q44, .ref (b46 0), .ref q50, .null, .null, .int 0, .int 0, .int 0]) : va_E) (show 431 ≠ 0 by decide)).trans h431
  have h0 := va_up_self S 0 (.inr (11, [.ref (b2 0), .ref (b7 0), .ref (b12 0), .ref (b17 0), .ref (b22 0), .ref (b27 0), .ref (b32 0), .ref (b37 0), .ref q41, .ref q42, .ref q43, .ref q44, .ref (b46 0), .ref q50, .null, .null, .int 0, .int 0, .int 0]) : va_E)
  generalize va_up S 0 (.inr (11, [.ref (b2 0), .ref (b7 0), .ref (b12 0), .ref (b17 0), .ref (b22 0), .ref (b27 0), .ref (b32 0), .ref (b37 0), .ref q41, .ref q42, .ref q43, .ref q44, .ref (b46 0), .ref q50, .null, .null, .int 0, .int 0, .int 0])) = S at G hBL h0 h6 h430 h431
  refine lv_aload_n hx hb dX11_init_150 rfl (lv_at hl 0 rfl) ?_
  refine n_new E G hA (ci := 6) (fs := [.int 0, .int 0, .int 0, .int 0, .null, .int 0, .null, .null, .int 0, .null, .null, .int 0, .int 0, .null, .int 0, .null, .int 0, .null]) (fun w h => .tail _ (iA_14 h)) tyX6 tyX6_ok (.tail _ qA_673) (.tail _ qA_674) (.tail _ qA_207) rfl (by decide) (Nat.le_of_ble_eq_true rfl) (Nat.le_of_ble_eq_true rfl) dX11_init_151 (fun q51 H G => ?_)
  refine lv_dup hx hb dX11_init_154 rfl ?_
  refine n_init (N := 478) E G hA hxs nX.moved hml (n_X6 l D cI cJ cZ cMic cSrc cSt cAI cAJ) (cwI 0 hts (gaC qA_557) rfl rfl rfl (hts _ (.tail _ qA_207)) (hts _ (.tail _ qA_685)) (hts _ (.tail _ qA_686)) rfl (by decide +kernel) ⟨Nat.le_of_ble_eq_true rfl, Nat.le_of_ble_eq_true rfl⟩) (cat_hi (Nat.le_refl _)) (cat_hi (Nat.le_refl _)) hl.1 (lv_room (Nat.le_of_ble_eq_true rfl)) dX11_init_155 ⟨Nat.le_of_ble_eq_true rfl, Nat.le_of_ble_eq_true rfl⟩ (fun b52 T53 H locs hb54 hT55 G => ?_)
  subst hb54
  rw [cat_cat, cat_cat] at G
  have G : cG D (cat 478 ad b52) 656 A s.heap H locs (cat 478 S T53) := G
  have h0 : cat 478 S T53 0 = .inr (11, [.ref (b2 0), .ref (b7 0), .ref (b12 0), .ref (b17 0), .ref (b22 0), .ref (b27 0), .ref (b32 0), .ref (b37 0), .ref q41, .ref q42, .ref q43, .ref q44, .ref (b46 0), .ref q50, .null, .null, .int 0, .int 0, .int 0]) := (cat_lo (by decide)).trans h0
  have a0 := (cat_lo (N := 478) (g := b52) (show 0 < 478 by decide)).trans a0
  have h6 : cat 478 S T53 6 = .inr (3, [.ref (b2 0), .int 0, .int 0, .int (-1)]) := (cat_lo (by decide)).trans h6
  have a6 := (cat_lo (N := 478) (g := b52) (show 6 < 478 by decide)).trans a6
  have h430 : cat 478 S T53 430 = .inl (cSt, 6, .inr (.inr (.inr (.inr (fun _ => none))))) := (cat_lo (by decide)).trans h430
  have a430 := (cat_lo (N := 478) (g := b52) (show 430 < 478 by decide)).trans a430
  have h431 : cat 478 S T53 431 = .inl (cSt, 2, .inr (.inr (.inr (.inr (fun _ => none))))) := (cat_lo (by decide)).trans h431
  have a431 := (cat_lo (N := 478) (g := b52) (show 431 < 478 by decide)).trans a431
  have hBL := BL_push (b := b52) (T := T53) hBL (N := 478) (by decide +kernel) rfl hT55
  generalize cat 478 ad b52 = ad at G hBL h0 a0 h6 a6 h430 a430 h431 a431
  generalize cat 478 S T53 = S at G hBL h0 h6 h430 h431
  refine n_put E G 0 14 h (fs := [.ref (b2 0), .ref (b7 0), .ref (b12 0), .ref (b17 0), .ref (b22 0), .ref (b27 0), .ref (b32 0), .ref (b37 0), .ref q41, .ref q42, .ref q43, .ref q44, .ref (b46 0), .ref q50, .null, .null, .int 0, .int 0, .int 0]) (fs1 := [.ref (b2 0), .ref (b7 0), .ref (b12 0), .ref (b17 0), .ref (b22 0), .ref (b27 0), .ref (b32 0), .ref (b37 0), .ref q41, .ref q42, .ref q43, .ref q44, .ref (b46 0), .ref q50, .ref (b52 0), .null, .int 0, .int 0, .int 0]) (by decide) a0 h0 rfl (fun w h => .tail _ (iA_23 h)) tyX11 tyX11_ok nmX11 (by decide) (.tail _ qA_675) ⟨rfl, rfl, rfl⟩ rfl rfl (Nat.le_of_ble_eq_true rfl) rfl dX11_init_158 (fun H locs G => ?_)
  have hBL := BL_put (q := 0) (e := .inr (11, [.ref (b2 0), .ref (b7 0), .ref (b12 0), .ref (b17 0), .ref (b22 0), .ref (b27 0), .ref (b32 0), .ref (b37 0), .ref q41, .ref q42, .ref q43, .ref q44, .ref (b46 0), .ref q50, .ref (b52 0), .null, .int 0, .int 0, .int 0])) hBL (by decide +kernel)
  have h6 := (va_up_ne S (.inr (11, [.ref (b2 0), .ref (b7 0), .ref (b12 0), .ref (b17 0), .ref (b22 0), .ref (b27 0), .ref (b32 0), .ref (b37 0), .ref q41, .ref q42, .ref q43, .ref q44, .ref (b46 0), .ref q50, .ref (b52 0), .null, .int 0, .int 0, .int 0]) : va_E) (show 6 ≠ 0 by decide)).trans h6
  have h430 := (va_up_ne S (.inr (11, [.ref (b2 0), .ref (b7 0), .ref (b12 0), .ref (b17 0), .ref (b22 0), .ref (b27 0), .ref (b32 0), .ref (b37 0), .ref q41, .ref q42, .ref q43, .ref q44, .ref (b46 0), .ref q50, .ref (b52 0), .null, .int 0, .int 0, .int 0]) : va_E) (show 430 ≠ 0 by decide)).trans h430
  have h431 := (va_up_ne S (.inr (11, [.ref (b2 0), .ref (b7 0), .ref (b12 0), .ref (b17 0), .ref (b22 0), .ref (b27 0), .ref (b32 0), .ref (b37 0), .ref q41, .ref q42, .ref q43, .ref q44, .ref (b46 0), .ref q50, .ref (b52 0), .null, .int 0, .int 0, .int 0]) : va_E) (show 431 ≠ 0 by decide)).trans h431
  have h0 := va_up_self S 0 (.inr (11, [.ref (b2 0), .ref (b7 0), .ref (b12 0), .ref (b17 0), .ref (b22 0), .ref (b27 0), .ref (b32 0), .ref (b37 0), .ref q41, .ref q42, .ref q43, .ref q44, .ref (b46 0), .ref q50, .ref (b52 0), .null, .int 0, .int 0, .int 0]) : va_E)
  generalize va_up S 0 (.inr (11, [.ref (b2 0), .ref (b7 0), .ref (b12 0), .ref (b17 0), .ref (b22 0), .ref (b27 0), .ref (b32 0), .ref (b37 0), .ref q41, .ref q42, .ref q43, .ref q44, .ref (b46 0), .ref q50, .ref (b52 0), .null, .int 0, .int 0, .int 0])) = S at G hBL h0 h6 h430 h431
  refine lv_aload_n hx hb dX11_init_161 rfl (lv_at hl 0 rfl) ?_
  refine n_new E G hA (ci := 6) (fs := [.int 0, .int 0, .int 0, .int 0, .null, .int 0, .null, .null, .int 0, .null, .null, .int 0, .int 0, .null, .int 0, .null, .int 0, .null]) (fun w h => .tail _ (iA_14 h)) tyX6 tyX6_ok (.tail _ qA_673) (.tail _ qA_674) (.tail _ qA_207) rfl (by decide) (Nat.le_of_ble_eq_true rfl) (Nat.le_of_ble_eq_true rfl) dX11_init_162 (fun q56 H G => ?_)
  refine lv_dup hx hb dX11_init_165 rfl ?_
  refine n_init (N := 656) E G hA hxs nX.moved hml (n_X6 l D cI cJ cZ cMic cSrc cSt cAI cAJ) (cwI 0 hts (gaC qA_557) rfl rfl rfl (hts _ (.tail _ qA_207)) (hts _ (.tail _ qA_685)) (hts _ (.tail _ qA_686)) rfl (by decide +kernel) ⟨Nat.le_of_ble_eq_true rfl, Nat.le_of_ble_eq_true rfl⟩) (cat_hi (Nat.le_refl _)) (cat_hi (Nat.le_refl _)) hl.1 (lv_room (Nat.le_of_ble_eq_true rfl)) dX11_init_166 ⟨Nat.le_of_ble_eq_true rfl, Nat.le_of_ble_eq_true rfl⟩ (fun b57 T58 H locs hb59 hT60 G => ?_)
  subst hb59
  rw [cat_cat, cat_cat] at G
  have G : cG D (cat 656 ad b57) 834 A s.heap H locs (cat 656 S T58) := G
  have h0 : cat 656 S T58 0 = .inr (11, [.ref (b2 0), .ref (b7 0), .ref (b12 0), .ref (b17 0), .ref (b22 0), .ref (b27 0), .ref (b32 0), .ref (b37 0), .ref q41, .ref q42, .ref q43, .ref q44, .ref (b46 0), .ref q50, .ref (b52 0), .null, .int 0, .int 0, .int 0]) := (cat_lo (by decide)).trans h0
  have a0 := (cat_lo (N := 656) (g := b57) (show 0 < 656 by decide)).trans a0
  have h6 : cat 656 S T58 6 = .inr (3, [.ref (b2 0), .int 0, .int 0, .int (-1)]) := (cat_lo (by decide)).trans h6
  have a6 := (cat_lo (N := 656) (g := b57) (show 6 < 656 by decide)).trans a6
  have h430 : cat 656 S T58 430 = .inl (cSt, 6, .inr (.inr (.inr (.inr (fun _ => none))))) := (cat_lo (by decide)).trans h430
  have a430 := (cat_lo (N := 656) (g := b57) (show 430 < 656 by decide)).trans a430
  have h431 : cat 656 S T58 431 = .inl (cSt, 2, .inr (.inr (.inr (.inr (fun _ => none))))) := (cat_lo (by decide)).trans h431
  have a431 := (cat_lo (N := 656) (g := b57) (show 431 < 656 by decide)).trans a431
  have hBL := BL_push (b := b57) (T := T58) hBL (N := 656) (by decide +kernel) rfl hT60
  generalize cat 656 ad b57 = ad at G hBL h0 a0 h6 a6 h430 a430 h431 a431
  generalize cat 656 S T58 = S at G hBL h0 h6 h430 h431
  refine n_put E G 0 15 h (fs := [.ref (b2 0), .ref (b7 0), .ref (b12 0), .ref (b17 0), .ref (b22 0), .ref (b27 0), .ref (b32 0), .ref (b37 0), .ref q41, .ref q42, .ref q43, .ref q44, .ref (b46 0), .ref q50, .ref (b52 0), .null, .int 0, .int 0, .int 0]) (fs1 := [.ref (b2 0), .ref (b7 0), .ref (b12 0), .ref (b17 0), .ref (b22 0), .ref (b27 0), .ref (b32 0), .ref (b37 0), .ref q41, .ref q42, .ref q43, .ref q44, .ref (b46 0), .ref q50, .ref (b52 0), .ref (b57 0), .int 0, .int 0, .int 0]) (by decide) a0 h0 rfl (fun w h => .tail _ (iA_23 h)) tyX11 tyX11_ok nmX11 (by decide) (.tail _ qA_676) ⟨rfl, rfl, rfl⟩ rfl rfl (Nat.le_of_ble_eq_true rfl) rfl dX11_init_169 (fun H locs G => ?_)
  have hBL := BL_put (q := 0) (e := .inr (11, [.ref (b2 0), .ref (b7 0), .ref (b12 0), .ref (b17 0), .ref (b22 0), .ref (b27 0), .ref (b32 0), .ref (b37 0), .ref q41, .ref q42, .ref q43, .ref q44, .ref (b46 0), .ref q50, .ref (b52 0), .ref (b57 0), .int 0, .int 0, .int 0])) hBL (by decide +kernel)
  have h6 := (va_up_ne S (.inr (11, [.ref (b2 0), .ref (b7 0), .ref (b12 0), .ref (b17 0), .ref (b22 0), .ref (b27 0), .ref (b32 0), .ref (b37 0), .ref q41, .ref q42, .ref q43, .ref q44, .ref (b46 0), .ref q50, .ref (b52 0), .ref (b57 0), .int 0, .int 0, .int 0]) : va_E) (show 6 ≠ 0 by decide)).trans h6
  have h430 := (va_up_ne S (.inr (11, [.ref (b2 0), .ref (b7 0), .ref (b12 0), .ref (b17 0), .ref (b22 0), .ref (b27 0), .ref (b32 0), .ref (b37 0), .ref q41, .ref q42, .ref q43, .ref q44, .ref (b46 0), .ref q50, .ref (b52 0), .ref (b57 0), .int 0, .int 0, .int 0]) : va_E) (show 430 ≠ 0 by decide)).trans h430
  have h431 := (va_up_ne S (.inr (11, [.ref (b2 0), .ref (b7 0), .ref (b12 0), .ref (b17 0), .ref (b22 0), .ref (b27 0), .ref (b32 0), .ref (b37 0), .ref q41, .ref q42, .ref q43, .ref q44, .ref (b46 0), .ref q50, .ref (b52 0), .ref (b57 0), .int 0, .int 0, .int 0]) : va_E) (show 431 ≠ 0 by decide)).trans h431
  have h0 := va_up_self S 0 (.inr (11, [.ref (b2 0), .ref (b7 0), .ref (b12 0), .ref (b17 0), .ref (b22 0), .ref (b27 0), .ref (b32 0), .ref (b37 0), .ref q41, .ref q42, .ref q43, .ref q44, .ref (b46 0), .ref q50, .ref (b52 0), .ref (b57 0), .int 0, .int 0, .int 0]) : va_E)
  generalize va_up S 0 (.inr (11, [.ref (b2 0), .ref (b7 0), .ref (b12 0), .ref (b17 0), .ref (b22 0), .ref (b27 0), .ref (b32 0), .ref (b37 0), .ref q41, .ref q42, .ref q43, .ref q44, .ref (b46 0), .ref q50, .ref (b52 0), .ref (b57 0), .int 0, .int 0, .int 0])) = S at G hBL h0 h6 h430 h431
  refine lv_iconst (v := 0) hx hb dX11_init_172 (by decide) ?_
  refine lv_istore_n (lv' := [(1, .int 0), (0, .ref h)]) hx hb dX11_init_173 rfl hl (by decide) rfl (fun ls hl => ?_)
  refine lv_iload_n hx hb dX11_init_174 rfl (lv_at hl 0 rfl) ?_
  refine lv_bipush (v := 6) hx hb dX11_init_175 (by decide) ?_
  refine lv_icmp_ge (tgt := 199) hx hb dX11_init_177 (by decide) (fun c61 => absurd c61 (by decide +kernel)) (fun c61 => ?_)
  refine lv_aload_n hx hb dX11_init_180 rfl (lv_at hl 1 rfl) ?_
  refine n_getr E G 0 8 h (fs := [.ref (b2 0), .ref (b7 0), .ref (b12 0), .ref (b17 0), .ref (b22 0), .ref (b27 0), .ref (b32 0), .ref (b37 0), .ref q41, .ref q42, .ref q43, .ref q44, .ref (b46 0), .ref q50, .ref (b52 0), .ref (b57 0), .int 0, .int 0, .int 0]) (by decide) a0 h0 rfl (fun w h => .tail _ (iA_23 h)) (by decide) (.tail _ qA_666) rfl rfl dX11_init_181 ?_
  refine lv_iload_n hx hb dX11_init_184 rfl (lv_at hl 0 rfl) ?_
  refine n_new E G hA (ci := 8) (fs := [.int 0, .int 0, .int 0, .null, .null, .null, .null, .null, .null, .null, .null, .null]) (fun w h => .tail _ (iA_16 h)) tyX8 tyX8_ok (.tail _ qA_662) (.tail _ qA_663) (.tail _ qA_47) rfl (by decide) (Nat.le_of_ble_eq_true rfl) (Nat.le_of_ble_eq_true rfl) dX11_init_185 (fun q62 H G => ?_)
  refine lv_dup hx hb dX11_init_188 rfl ?_
  refine n_initN (N := 834) E G hA hxs nX.moved hml (n_X8 l D cI cJ cZ cMic cSrc cSt cAI cAJ) ⟨va_cnB (host := "AcousticCamera") 0 hts (gaC qA_582) rfl rfl rfl (hxs.2.2.2.2.2 _ (List.mem_of_getElem? (i := 5) rfl)) (hts _ (.tail _ qA_47)) (by decide +kernel) ⟨Nat.le_of_ble_eq_true rfl, Nat.le_of_ble_eq_true rfl⟩, rfl, hts _ (.tail _ qA_683)⟩ (cat_hi (Nat.le_refl _)) (cat_hi (Nat.le_refl _)) hl.1 (lv_room (Nat.le_of_ble_eq_true rfl)) dX11_init_189 ⟨Nat.le_of_ble_eq_true rfl, Nat.le_of_ble_eq_true rfl⟩ (fun b63 T64 H locs hb65 hT66 G => ?_)
  subst hb65
  rw [cat_cat, cat_cat] at G
  have G : cG D (cat 834 ad b63) 928 A s.heap H locs (cat 834 S T64) := G
  have h0 : cat 834 S T64 0 = .inr (11, [.ref (b2 0), .ref (b7 0), .ref (b12 0), .ref (b17 0), .ref (b22 0), .ref (b27 0), .ref (b32 0), .ref (b37 0), .ref q41, .ref q42, .ref q43, .ref q44, .ref (b46 0), .ref q50, .ref (b52 0), .ref (b57 0), .int 0, .int 0, .int 0]) := (cat_lo (by decide)).trans h0
  have a0 := (cat_lo (N := 834) (g := b63) (show 0 < 834 by decide)).trans a0
  have h6 : cat 834 S T64 6 = .inr (3, [.ref (b2 0), .int 0, .int 0, .int (-1)]) := (cat_lo (by decide)).trans h6
  have a6 := (cat_lo (N := 834) (g := b63) (show 6 < 834 by decide)).trans a6
  have h430 : cat 834 S T64 430 = .inl (cSt, 6, .inr (.inr (.inr (.inr (fun _ => none))))) := (cat_lo (by decide)).trans h430
  have a430 := (cat_lo (N := 834) (g := b63) (show 430 < 834 by decide)).trans a430
  have h431 : cat 834 S T64 431 = .inl (cSt, 2, .inr (.inr (.inr (.inr (fun _ => none))))) := (cat_lo (by decide)).trans h431
  have a431 := (cat_lo (N := 834) (g := b63) (show 431 < 834 by decide)).trans a431
  have hBL := BL_push (b := b63) (T := T64) hBL (N := 834) (by decide +kernel) rfl hT66
  generalize cat 834 ad b63 = ad at G hBL h0 a0 h6 a6 h430 a430 h431 a431
  generalize cat 834 S T64 = S at G hBL h0 h6 h430 h431
  have hv := hBL 13 (by decide) 0 (by decide)
  refine n_astq E G 430 5 834 (r := (RX8, TX8, 12)) (ci := 8) (vs := [.int 0, .int 0, .int 0, .ref (b63 1), .ref (b63 2), .ref (b63 3), .ref (b63 4), .ref (b63 5), .ref (b63 6), .ref (b63 7), .ref (b63 8), .ref (b63 51)]) (k := 0) (f := (fun _ => none)) (by decide) a430 h430 rfl (by decide) hv.2 hv.1 rfl rfl (by decide) (by decide) dX11_init_192 (fun H locs G => ?_)
  have hBL := BL_put (q := 430) (e := .inl (cSt, 6, .inr (.inr (.inr (.inr (va_up (fun _ => none) 0 (some (b63 0)))))))) hBL (by decide +kernel)
  have h0 := (va_up_ne S (.inl (cSt, 6, .inr (.inr (.inr (.inr (va_up (fun _ => none) 0 (some (b63 0))))))) : va_E) (show 0 ≠ 430 by decide)).trans h0
  have h6 := (va_up_ne S (.inl (cSt, 6, .inr (.inr (.inr (.inr (va_up (fun _ => none) 0 (some (b63 0))))))) : va_E) (show 6 ≠ 430 by decide)).trans h6
  have h431 := (va_up_ne S (.inl (cSt, 6, .inr (.inr (.inr (.inr (va_up (fun _ => none) 0 (some (b63 0))))))) : va_E) (show 431 ≠ 430 by decide)).trans h431
  have h430 := va_up_self S 430 (.inl (cSt, 6, .inr (.inr (.inr (.inr (va_up (fun _ => none) 0 (some (b63 0))))))) : va_E)
  generalize va_up S 430 (.inl (cSt, 6, .inr (.inr (.inr (.inr (va_up (fun _ => none) 0 (some (b63 0)))))))) = S at G hBL h0 h6 h430 h431
  refine lv_iinc (v := 1) (lv' := [(1, .int 1), (0, .ref h)]) hx hb dX11_init_193 hl (k := 0) rfl (by decide +kernel) (by decide) rfl (fun ls hl => ?_)
  refine lv_goto (tgt := 174) hx hb dX11_init_196 (by decide) ?_
  refine lv_iload_n hx hb dX11_init_174 rfl (lv_at hl 0 rfl) ?_
  refine lv_bipush (v := 6) hx hb dX11_init_175 (by decide) ?_
  refine lv_icmp_ge (tgt := 199) hx hb dX11_init_177 (by decide) (fun c67 => absurd c67 (by decide +kernel)) (fun c67 => ?_)
  refine lv_aload_n hx hb dX11_init_180 rfl (lv_at hl 1 rfl) ?_
  refine n_getr E G 0 8 h (fs := [.ref (b2 0), .ref (b7 0), .ref (b12 0), .ref (b17 0), .ref (b22 0), .ref (b27 0), .ref (b32 0), .ref (b37 0), .ref q41, .ref q42, .ref q43, .ref q44, .ref (b46 0), .ref q50, .ref (b52 0), .ref (b57 0), .int 0, .int 0, .int 0]) (by decide) a0 h0 rfl (fun w h => .tail _ (iA_23 h)) (by decide) (.tail _ qA_666) rfl rfl dX11_init_181 ?_
  refine lv_iload_n hx hb dX11_init_184 rfl (lv_at hl 0 rfl) ?_
  refine n_new E G hA (ci := 8) (fs := [.int 0, .int 0, .int 0, .null, .null, .null, .null, .null, .null, .null, .null, .null]) (fun w h => .tail _ (iA_16 h)) tyX8 tyX8_ok (.tail _ qA_662) (.tail _ qA_663) (.tail _ qA_47) rfl (by decide) (Nat.le_of_ble_eq_true rfl) (Nat.le_of_ble_eq_true rfl) dX11_init_185 (fun q68 H G => ?_)
  refine lv_dup hx hb dX11_init_188 rfl ?_
  refine n_initN (N := 928) E G hA hxs nX.moved hml (n_X8 l D cI cJ cZ cMic cSrc cSt cAI cAJ) ⟨va_cnB (host := "AcousticCamera") 0 hts (gaC qA_582) rfl rfl rfl (hxs.2.2.2.2.2 _ (List.mem_of_getElem? (i := 5) rfl)) (hts _ (.tail _ qA_47)) (by decide +kernel) ⟨Nat.le_of_ble_eq_true rfl, Nat.le_of_ble_eq_true rfl⟩, rfl, hts _ (.tail _ qA_683)⟩ (cat_hi (Nat.le_refl _)) (cat_hi (Nat.le_refl _)) hl.1 (lv_room (Nat.le_of_ble_eq_true rfl)) dX11_init_189 ⟨Nat.le_of_ble_eq_true rfl, Nat.le_of_ble_eq_true rfl⟩ (fun b69 T70 H locs hb71 hT72 G => ?_)
  subst hb71
  rw [cat_cat, cat_cat] at G
  have G : cG D (cat 928 ad b69) 1022 A s.heap H locs (cat 928 S T70) := G
  have h0 : cat 928 S T70 0 = .inr (11, [.ref (b2 0), .ref (b7 0), .ref (b12 0), .ref (b17 0), .ref (b22 0), .ref (b27 0), .ref (b32 0), .ref (b37 0), .ref q41, .ref q42, .ref q43, .ref q44, .ref (b46 0), .ref q50, .ref (b52 0), .ref (b57 0), .int 0, .int 0, .int 0]) := (cat_lo (by decide)).trans h0
  have a0 := (cat_lo (N := 928) (g := b69) (show 0 < 928 by decide)).trans a0
  have h6 : cat 928 S T70 6 = .inr (3, [.ref (b2 0), .int 0, .int 0, .int (-1)]) := (cat_lo (by decide)).trans h6
  have a6 := (cat_lo (N := 928) (g := b69) (show 6 < 928 by decide)).trans a6
  have h430 : cat 928 S T70 430 = .inl (cSt, 6, .inr (.inr (.inr (.inr (va_up (fun _ => none) 0 (some (b63 0))))))) := (cat_lo (by decide)).trans h430
  have a430 := (cat_lo (N := 928) (g := b69) (show 430 < 928 by decide)).trans a430
  have h431 : cat 928 S T70 431 = .inl (cSt, 2, .inr (.inr (.inr (.inr (fun _ => none))))) := (cat_lo (by decide)).trans h431
  have a431 := (cat_lo (N := 928) (g := b69) (show 431 < 928 by decide)).trans a431
  have hBL := BL_push (b := b69) (T := T70) hBL (N := 928) (by decide +kernel) rfl hT72
  generalize cat 928 ad b69 = ad at G hBL h0 a0 h6 a6 h430 a430 h431 a431
  generalize cat 928 S T70 = S at G hBL h0 h6 h430 h431
  have hv := hBL 14 (by decide) 0 (by decide)
  refine n_astq E G 430 5 928 (r := (RX8, TX8, 12)) (ci := 8) (vs := [.int 0, .int 0, .int 0, .ref (b69 1), .ref (b69 2), .ref (b69 3), .ref (b69 4), .ref (b69 5), .ref (b69 6), .ref (b69 7), .ref (b69 8), .ref (b69 51)]) (k := 1) (f := (va_up (fun _ => none) 0 (some (b63 0)))) (by decide) a430 h430 rfl (by decide) hv.2 hv.1 rfl rfl (by decide) (by decide) dX11_init_192 (fun H locs G => ?_)
  have hBL := BL_put (q := 430) (e := .inl (cSt, 6, .inr (.inr (.inr (.inr (va_up (va_up (fun _ => none) 0 (some (b63 0))) 1 (some (b69 0)))))))) hBL (by decide +kernel)
  have h0 := (va_up_ne S (.inl (cSt, 6, .inr (.inr (.inr (.inr (va_up (va_up (fun _ => none) 0 (some (b63 0))) 1 (some (b69 0))))))) : va_E) (show 0 ≠ 430 by decide)).trans h0
  have h6 := (va_up_ne S (.inl (cSt, 6, .inr (.inr (.inr (.inr (va_up (va_up (fun _ => none) 0 (some (b63 0))) 1 (some (b69 0))))))) : va_E) (show 6 ≠ 430 by decide)).trans h6
  have h431 := (va_up_ne S (.inl (cSt, 6, .inr (.inr (.inr (.inr (va_up (va_up (fun _ => none) 0 (some (b63 0))) 1 (some (b69 0))))))) : va_E) (show 431 ≠ 430 by decide)).trans h431
  have h430 := va_up_self S 430 (.inl (cSt, 6, .inr (.inr (.inr (.inr (va_up (va_up (fun _ => none) 0 (some (b63 0))) 1 (some (b69 0))))))) : va_E)
  generalize va_up S 430 (.inl (cSt, 6, .inr (.inr (.inr (.inr (va_up (va_up (fun _ => none) 0 (some (b63 0))) 1 (some (b69 0)))))))) = S at G hBL h0 h6 h430 h431
  refine lv_iinc (v := 2) (lv' := [(1, .int 2), (0, .ref h)]) hx hb dX11_init_193 hl (k := 0) rfl (by decide +kernel) (by decide) rfl (fun ls hl => ?_)
  refine lv_goto (tgt := 174) hx hb dX11_init_196 (by decide) ?_
  refine lv_iload_n hx hb dX11_init_174 rfl (lv_at hl 0 rfl) ?_
  refine lv_bipush (v := 6) hx hb dX11_init_175 (by decide) ?_
  refine lv_icmp_ge (tgt := 199) hx hb dX11_init_177 (by decide) (fun c73 => absurd c73 (by decide +kernel)) (fun c73 => ?_)
  refine lv_aload_n hx hb dX11_init_180 rfl (lv_at hl 1 rfl) ?_
  refine n_getr E G 0 8 h (fs := [.ref (b2 0), .ref (b7 0), .ref (b12 0), .ref (b17 0), .ref (b22 0), .ref (b27 0), .ref (b32 0), .ref (b37 0), .ref q41, .ref q42, .ref q43, .ref q44, .ref (b46 0), .ref q50, .ref (b52 0), .ref (b57 0), .int 0, .int 0, .int 0]) (by decide) a0 h0 rfl (fun w h => .tail _ (iA_23 h)) (by decide) (.tail _ qA_666) rfl rfl dX11_init_181 ?_
  refine lv_iload_n hx hb dX11_init_184 rfl (lv_at hl 0 rfl) ?_
  refine n_new E G hA (ci := 8) (fs := [.int 0, .int 0, .int 0, .null, .null, .null, .null, .null, .null, .null, .null, .null]) (fun w h => .tail _ (iA_16 h)) tyX8 tyX8_ok (.tail _ qA_662) (.tail _ qA_663) (.tail _ qA_47) rfl (by decide) (Nat.le_of_ble_eq_true rfl) (Nat.le_of_ble_eq_true rfl) dX11_init_185 (fun q74 H G => ?_)
  refine lv_dup hx hb dX11_init_188 rfl ?_
  refine n_initN (N := 1022) E G hA hxs nX.moved hml (n_X8 l D cI cJ cZ cMic cSrc cSt cAI cAJ) ⟨va_cnB (host := "AcousticCamera") 0 hts (gaC qA_582) rfl rfl rfl (hxs.2.2.2.2.2 _ (List.mem_of_getElem? (i := 5) rfl)) (hts _ (.tail _ qA_47)) (by decide +kernel) ⟨Nat.le_of_ble_eq_true rfl, Nat.le_of_ble_eq_true rfl⟩, rfl, hts _ (.tail _ qA_683)⟩ (cat_hi (Nat.le_refl _)) (cat_hi (Nat.le_refl _)) hl.1 (lv_room (Nat.le_of_ble_eq_true rfl)) dX11_init_189 ⟨Nat.le_of_ble_eq_true rfl, Nat.le_of_ble_eq_true rfl⟩ (fun b75 T76 H locs hb77 hT78 G => ?_)
  subst hb77
  rw [cat_cat, cat_cat] at G
  have G : cG D (cat 1022 ad b75) 1116 A s.heap H locs (cat 1022 S T76) := G
  have h0 : cat 1022 S T76 0 = .inr (11, [.ref (b2 0), .ref (b7 0), .ref (b12 0), .ref (b17 0), .ref (b22 0), .ref (b27 0), .ref (b32 0), .ref (b37 0), .ref q41, .ref q42, .ref q43, .ref q44, .ref (b46 0), .ref q50, .ref (b52 0), .ref (b57 0), .int 0, .int 0, .int 0]) := (cat_lo (by decide)).trans h0
  have a0 := (cat_lo (N := 1022) (g := b75) (show 0 < 1022 by decide)).trans a0
  have h6 : cat 1022 S T76 6 = .inr (3, [.ref (b2 0), .int 0, .int 0, .int (-1)]) := (cat_lo (by decide)).trans h6
  have a6 := (cat_lo (N := 1022) (g := b75) (show 6 < 1022 by decide)).trans a6
  have h430 : cat 1022 S T76 430 = .inl (cSt, 6, .inr (.inr (.inr (.inr (va_up (va_up (fun _ => none) 0 (some (b63 0))) 1 (some (b69 0))))))) := (cat_lo (by decide)).trans h430
  have a430 := (cat_lo (N := 1022) (g := b75) (show 430 < 1022 by decide)).trans a430
  have h431 : cat 1022 S T76 431 = .inl (cSt, 2, .inr (.inr (.inr (.inr (fun _ => none))))) := (cat_lo (by decide)).trans h431
  have a431 := (cat_lo (N := 1022) (g := b75) (show 431 < 1022 by decide)).trans a431
  have hBL := BL_push (b := b75) (T := T76) hBL (N := 1022) (by decide +kernel) rfl hT78
  generalize cat 1022 ad b75 = ad at G hBL h0 a0 h6 a6 h430 a430 h431 a431
  generalize cat 1022 S T76 = S at G hBL h0 h6 h430 h431
  have hv := hBL 15 (by decide) 0 (by decide)
  refine n_astq E G 430 5 1022 (r := (RX8, TX8, 12)) (ci := 8) (vs := [.int 0, .int 0, .int 0, .ref (b75 1), .ref (b75 2), .ref (b75 3), .ref (b75 4), .ref (b75 5), .ref (b75 6), .ref (b75 7), .ref (b75 8), .ref (b75 51)]) (k := 2) (f := (va_up (va_up (fun _ => none) 0 (some (b63 0))) 1 (some (b69 0)))) (by decide) a430 h430 rfl (by decide) hv.2 hv.1 rfl rfl (by decide) (by decide) dX11_init_192 (fun H locs G => ?_)
  have hBL := BL_put (q := 430) (e := .inl (cSt, 6, .inr (.inr (.inr (.inr (va_up (va_up (va_up (fun _ => none) 0 (some (b63 0))) 1 (some (b69 0))) 2 (some (b75 0)))))))) hBL (by decide +kernel)
  have h0 := (va_up_ne S (.inl (cSt, 6, .inr (.inr (.inr (.inr (va_up (va_up (va_up (fun _ => none) 0 (some (b63 0))) 1 (some (b69 0))) 2 (some (b75 0))))))) : va_E) (show 0 ≠ 430 by decide)).trans h0
  have h6 := (va_up_ne S (.inl (cSt, 6, .inr (.inr (.inr (.inr (va_up (va_up (va_up (fun _ => none) 0 (some (b63 0))) 1 (some (b69 0))) 2 (some (b75 0))))))) : va_E) (show 6 ≠ 430 by decide)).trans h6
  have h431 := (va_up_ne S (.inl (cSt, 6, .inr (.inr (.inr (.inr (va_up (va_up (va_up (fun _ => none) 0 (some (b63 0))) 1 (some (b69 0))) 2 (some (b75 0))))))) : va_E) (show 431 ≠ 430 by decide)).trans h431
  have h430 := va_up_self S 430 (.inl (cSt, 6, .inr (.inr (.inr (.inr (va_up (va_up (va_up (fun _ => none) 0 (some (b63 0))) 1 (some (b69 0))) 2 (some (b75 0))))))) : va_E)
  generalize va_up S 430 (.inl (cSt, 6, .inr (.inr (.inr (.inr (va_up (va_up (va_up (fun _ => none) 0 (some (b63 0))) 1 (some (b69 0))) 2 (some (b75 0)))))))) = S at G hBL h0 h6 h430 h431
  refine lv_iinc (v := 3) (lv' := [(1, .int 3), (0, .ref h)]) hx hb dX11_init_193 hl (k := 0) rfl (by decide +kernel) (by decide) rfl (fun ls hl => ?_)
  refine lv_goto (tgt := 174) hx hb dX11_init_196 (by decide) ?_
  refine lv_iload_n hx hb dX11_init_174 rfl (lv_at hl 0 rfl) ?_
  refine lv_bipush (v := 6) hx hb dX11_init_175 (by decide) ?_
  refine lv_icmp_ge (tgt := 199) hx hb dX11_init_177 (by decide) (fun c79 => absurd c79 (by decide +kernel)) (fun c79 => ?_)
  refine lv_aload_n hx hb dX11_init_180 rfl (lv_at hl 1 rfl) ?_
  refine n_getr E G 0 8 h (fs := [.ref (b2 0), .ref (b7 0), .ref (b12 0), .ref (b17 0), .ref (b22 0), .ref (b27 0), .ref (b32 0), .ref (b37 0), .ref q41, .ref q42, .ref q43, .ref q44, .ref (b46 0), .ref q50, .ref (b52 0), .ref (b57 0), .int 0, .int 0, .int 0]) (by decide) a0 h0 rfl (fun w h => .tail _ (iA_23 h)) (by decide) (.tail _ qA_666) rfl rfl dX11_init_181 ?_
  refine lv_iload_n hx hb dX11_init_184 rfl (lv_at hl 0 rfl) ?_
  refine n_new E G hA (ci := 8) (fs := [.int 0, .int 0, .int 0, .null, .null, .null, .null, .null, .null, .null, .null, .null]) (fun w h => .tail _ (iA_16 h)) tyX8 tyX8_ok (.tail _ qA_662) (.tail _ qA_663) (.tail _ qA_47) rfl (by decide) (Nat.le_of_ble_eq_true rfl) (Nat.le_of_ble_eq_true rfl) dX11_init_185 (fun q80 H G => ?_)
  refine lv_dup hx hb dX11_init_188 rfl ?_
  refine n_initN (N := 1116) E G hA hxs nX.moved hml (n_X8 l D cI cJ cZ cMic cSrc cSt cAI cAJ) ⟨va_cnB (host := "AcousticCamera") 0 hts (gaC qA_582) rfl rfl rfl (hxs.2.2.2.2.2 _ (List.mem_of_getElem? (i := 5) rfl)) (hts _ (.tail _ qA_47)) (by decide +kernel) ⟨Nat.le_of_ble_eq_true rfl, Nat.le_of_ble_eq_true rfl⟩, rfl, hts _ (.tail _ qA_683)⟩ (cat_hi (Nat.le_refl _)) (cat_hi (Nat.le_refl _)) hl.1 (lv_room (Nat.le_of_ble_eq_true rfl)) dX11_init_189 ⟨Nat.le_of_ble_eq_true rfl, Nat.le_of_ble_eq_true rfl⟩ (fun b81 T82 H locs hb83 hT84 G => ?_)
  subst hb83
  rw [cat_cat, cat_cat] at G
  have G : cG D (cat 1116 ad b81) 1210 A s.heap H locs (cat 1116 S T82) := G
  have h0 : cat 1116 S T82 0 = .inr (11, [.ref (b2 0), .ref (b7 0), .ref (b12 0), .ref (b17 0), .ref (b22 0), .ref (b27 0), .ref (b32 0), .ref (b37 0), .ref q41, .ref q42, .ref q43, .ref q44, .ref (b46 0), .ref q50, .ref (b52 0), .ref (b57 0), .int 0, .int 0, .int 0]) := (cat_lo (by decide)).trans h0
  have a0 := (cat_lo (N := 1116) (g := b81) (show 0 < 1116 by decide)).trans a0
  have h6 : cat 1116 S T82 6 = .inr (3, [.ref (b2 0), .int 0, .int 0, .int (-1)]) := (cat_lo (by decide)).trans h6
  have a6 := (cat_lo (N := 1116) (g := b81) (show 6 < 1116 by decide)).trans a6
  have h430 : cat 1116 S T82 430 = .inl (cSt, 6, .inr (.inr (.inr (.inr (va_up (va_up (va_up (fun _ => none) 0 (some (b63 0))) 1 (some (b69 0))) 2 (some (b75 0))))))) := (cat_lo (by decide)).trans h430
  have a430 := (cat_lo (N := 1116) (g := b81) (show 430 < 1116 by decide)).trans a430
  have h431 : cat 1116 S T82 431 = .inl (cSt, 2, .inr (.inr (.inr (.inr (fun _ => none))))) := (cat_lo (by decide)).trans h431
  have a431 := (cat_lo (N := 1116) (g := b81) (show 431 < 1116 by decide)).trans a431
  have hBL := BL_push (b := b81) (T := T82) hBL (N := 1116) (by decide +kernel) rfl hT84
  generalize cat 1116 ad b81 = ad at G hBL h0 a0 h6 a6 h430 a430 h431 a431
  generalize cat 1116 S T82 = S at G hBL h0 h6 h430 h431
  have hv := hBL 16 (by decide) 0 (by decide)
  refine n_astq E G 430 5 1116 (r := (RX8, TX8, 12)) (ci := 8) (vs := [.int 0, .int 0, .int 0, .ref (b81 1), .ref (b81 2), .ref (b81 3), .ref (b81 4), .ref (b81 5), .ref (b81 6), .ref (b81 7), .ref (b81 8), .ref (b81 51)]) (k := 3) (f := (va_up (va_up (va_up (fun _ => none) 0 (some (b63 0))) 1 (some (b69 0))) 2 (some (b75 0)))) (by decide) a430 h430 rfl (by decide) hv.2 hv.1 rfl rfl (by decide) (by decide) dX11_init_192 (fun H locs G => ?_)
  have hBL := BL_put (q := 430) (e := .inl (cSt, 6, .inr (.inr (.inr (.inr (va_up (va_up (va_up (va_up (fun _ => none) 0 (some (b63 0))) 1 (some (b69 0))) 2 (some (b75 0))) 3 (some (b81 0)))))))) hBL (by decide +kernel)
  have h0 := (va_up_ne S (.inl (cSt, 6, .inr (.inr (.inr (.inr (va_up (va_up (va_up (va_up (fun _ => none) 0 (some (b63 0))) 1 (some (b69 0))) 2 (some (b75 0))) 3 (some (b81 0))))))) : va_E) (show 0 ≠ 430 by decide)).trans h0
  have h6 := (va_up_ne S (.inl (cSt, 6, .inr (.inr (.inr (.inr (va_up (va_up (va_up (va_up (fun _ => none) 0 (some (b63 0))) 1 (some (b69 0))) 2 (some (b75 0))) 3 (some (b81 0))))))) : va_E) (show 6 ≠ 430 by decide)).trans h6
  have h431 := (va_up_ne S (.inl (cSt, 6, .inr (.inr (.inr (.inr (va_up (va_up (va_up (va_up (fun _ => none) 0 (some (b63 0))) 1 (some (b69 0))) 2 (some (b75 0))) 3 (some (b81 0))))))) : va_E) (show 431 ≠ 430 by decide)).trans h431
  have h430 := va_up_self S 430 (.inl (cSt, 6, .inr (.inr (.inr (.inr (va_up (va_up (va_up (va_up (fun _ => none) 0 (some (b63 0))) 1 (some (b69 0))) 2 (some (b75 0))) 3 (some (b81 0))))))) : va_E)
  generalize va_up S 430 (.inl (cSt, 6, .inr (.inr (.inr (.inr (va_up (va_up (va_up (va_up (fun _ => none) 0 (some (b63 0))) 1 (some (b69 0))) 2 (some (b75 0))) 3 (some (b81 0)))))))) = S at G hBL h0 h6 h430 h431
  refine lv_iinc (v := 4) (lv' := [(1, .int 4), (0, .ref h)]) hx hb dX11_init_193 hl (k := 0) rfl (by decide +kernel) (by decide) rfl (fun ls hl => ?_)
  refine lv_goto (tgt := 174) hx hb dX11_init_196 (by decide) ?_
  refine lv_iload_n hx hb dX11_init_174 rfl (lv_at hl 0 rfl) ?_
  refine lv_bipush (v := 6) hx hb dX11_init_175 (by decide) ?_
  refine lv_icmp_ge (tgt := 199) hx hb dX11_init_177 (by decide) (fun c85 => absurd c85 (by decide +kernel)) (fun c85 => ?_)
  refine lv_aload_n hx hb dX11_init_180 rfl (lv_at hl 1 rfl) ?_
  refine n_getr E G 0 8 h (fs := [.ref (b2 0), .ref (b7 0), .ref (b12 0), .ref (b17 0), .ref (b22 0), .ref (b27 0), .ref (b32 0), .ref (b37 0), .ref q41, .ref q42, .ref q43, .ref q44, .ref (b46 0), .ref q50, .ref (b52 0), .ref (b57 0), .int 0, .int 0, .int 0]) (by decide) a0 h0 rfl (fun w h => .tail _ (iA_23 h)) (by decide) (.tail _ qA_666) rfl rfl dX11_init_181 ?_
  refine lv_iload_n hx hb dX11_init_184 rfl (lv_at hl 0 rfl) ?_
  refine n_new E G hA (ci := 8) (fs := [.int 0, .int 0, .int 0, .null, .null, .null, .null, .null, .null, .null, .null, .null]) (fun w h => .tail _ (iA_16 h)) tyX8 tyX8_ok (.tail _ qA_662) (.tail _ qA_663) (.tail _ qA_47) rfl (by decide) (Nat.le_of_ble_eq_true rfl) (Nat.le_of_ble_eq_true rfl) dX11_init_185 (fun q86 H G => ?_)
  refine lv_dup hx hb dX11_init_188 rfl ?_
  refine n_initN (N := 1210) E G hA hxs nX.moved hml (n_X8 l D cI cJ cZ cMic cSrc cSt cAI cAJ) ⟨va_cnB (host := "AcousticCamera") 0 hts (gaC qA_582) rfl rfl rfl (hxs.2.2.2.2.2 _ (List.mem_of_getElem? (i := 5) rfl)) (hts _ (.tail _ qA_47)) (by decide +kernel) ⟨Nat.le_of_ble_eq_true rfl, Nat.le_of_ble_eq_true rfl⟩, rfl, hts _ (.tail _ qA_683)⟩ (cat_hi (Nat.le_refl _)) (cat_hi (Nat.le_refl _)) hl.1 (lv_room (Nat.le_of_ble_eq_true rfl)) dX11_init_189 ⟨Nat.le_of_ble_eq_true rfl, Nat.le_of_ble_eq_true rfl⟩ (fun b87 T88 H locs hb89 hT90 G => ?_)
  subst hb89
  rw [cat_cat, cat_cat] at G
  have G : cG D (cat 1210 ad b87) 1304 A s.heap H locs (cat 1210 S T88) := G
  have h0 : cat 1210 S T88 0 = .inr (11, [.ref (b2 0), .ref (b7 0), .ref (b12 0), .ref (b17 0), .ref (b22 0), .ref (b27 0), .ref (b32 0), .ref (b37 0), .ref q41, .ref q42, .ref q43, .ref q44, .ref (b46 0), .ref q50, .ref (b52 0), .ref (b57 0), .int 0, .int 0, .int 0]) := (cat_lo (by decide)).trans h0
  have a0 := (cat_lo (N := 1210) (g := b87) (show 0 < 1210 by decide)).trans a0
  have h6 : cat 1210 S T88 6 = .inr (3, [.ref (b2 0), .int 0, .int 0, .int (-1)]) := (cat_lo (by decide)).trans h6
  have a6 := (cat_lo (N := 1210) (g := b87) (show 6 < 1210 by decide)).trans a6
  have h430 : cat 1210 S T88 430 = .inl (cSt, 6, .inr (.inr (.inr (.inr (va_up (va_up (va_up (va_up (fun _ => none) 0 (some (b63 0))) 1 (some (b69 0))) 2 (some (b75 0))) 3 (some (b81 0))))))) := (cat_lo (by decide)).trans h430
  have a430 := (cat_lo (N := 1210) (g := b87) (show 430 < 1210 by decide)).trans a430
  have h431 : cat 1210 S T88 431 = .inl (cSt, 2, .inr (.inr (.inr (.inr (fun _ => none))))) := (cat_lo (by decide)).trans h431
  have a431 := (cat_lo (N := 1210) (g := b87) (show 431 < 1210 by decide)).trans a431
  have hBL := BL_push (b := b87) (T := T88) hBL (N := 1210) (by decide +kernel) rfl hT90
  generalize cat 1210 ad b87 = ad at G hBL h0 a0 h6 a6 h430 a430 h431 a431
  generalize cat 1210 S T88 = S at G hBL h0 h6 h430 h431
  have hv := hBL 17 (by decide) 0 (by decide)
  refine n_astq E G 430 5 1210 (r := (RX8, TX8, 12)) (ci := 8) (vs := [.int 0, .int 0, .int 0, .ref (b87 1), .ref (b87 2), .ref (b87 3), .ref (b87 4), .ref (b87 5), .ref (b87 6), .ref (b87 7), .ref (b87 8), .ref (b87 51)]) (k := 4) (f := (va_up (va_up (va_up (va_up (fun _ => none) 0 (some (b63 0))) 1 (some (b69 0))) 2 (some (b75 0))) 3 (some (b81 0)))) (by decide) a430 h430 rfl (by decide) hv.2 hv.1 rfl rfl (by decide) (by decide) dX11_init_192 (fun H locs G => ?_)
  have hBL := BL_put (q := 430) (e := .inl (cSt, 6, .inr (.inr (.inr (.inr (va_up (va_up (va_up (va_up (va_up (fun _ => none) 0 (some (b63 0))) 1 (some (b69 0))) 2 (some (b75 0))) 3 (some (b81 0))) 4 (some (b87 0)))))))) hBL (by decide +kernel)
  have h0 := (va_up_ne S (.inl (cSt, 6, .inr (.inr (.inr (.inr (va_up (va_up (va_up (va_up (va_up (fun _ => none) 0 (some (b63 0))) 1 (some (b69 0))) 2 (some (b75 0))) 3 (some (b81 0))) 4 (some (b87 0))))))) : va_E) (show 0 ≠ 430 by decide)).trans h0
  have h6 := (va_up_ne S (.inl (cSt, 6, .inr (.inr (.inr (.inr (va_up (va_up (va_up (va_up (va_up (fun _ => none) 0 (some (b63 0))) 1 (some (b69 0))) 2 (some (b75 0))) 3 (some (b81 0))) 4 (some (b87 0))))))) : va_E) (show 6 ≠ 430 by decide)).trans h6
  have h431 := (va_up_ne S (.inl (cSt, 6, .inr (.inr (.inr (.inr (va_up (va_up (va_up (va_up (va_up (fun _ => none) 0 (some (b63 0))) 1 (some (b69 0))) 2 (some (b75 0))) 3 (some (b81 0))) 4 (some (b87 0))))))) : va_E) (show 431 ≠ 430 by decide)).trans h431
  have h430 := va_up_self S 430 (.inl (cSt, 6, .inr (.inr (.inr (.inr (va_up (va_up (va_up (va_up (va_up (fun _ => none) 0 (some (b63 0))) 1 (some (b69 0))) 2 (some (b75 0))) 3 (some (b81 0))) 4 (some (b87 0))))))) : va_E)
  generalize va_up S 430 (.inl (cSt, 6, .inr (.inr (.inr (.inr (va_up (va_up (va_up (va_up (va_up (fun _ => none) 0 (some (b63 0))) 1 (some (b69 0))) 2 (some (b75 0))) 3 (some (b81 0))) 4 (some (b87 0)))))))) = S at G hBL h0 h6 h430 h431
  refine lv_iinc (v := 5) (lv' := [(1, .int 5), (0, .ref h)]) hx hb dX11_init_193 hl (k := 0) rfl (by decide +kernel) (by decide) rfl (fun ls hl => ?_)
  refine lv_goto (tgt := 174) hx hb dX11_init_196 (by decide) ?_
  refine lv_iload_n hx hb dX11_init_174 rfl (lv_at hl 0 rfl) ?_
  refine lv_bipush (v := 6) hx hb dX11_init_175 (by decide) ?_
  refine lv_icmp_ge (tgt := 199) hx hb dX11_init_177 (by decide) (fun c91 => absurd c91 (by decide +kernel)) (fun c91 => ?_)
  refine lv_aload_n hx hb dX11_init_180 rfl (lv_at hl 1 rfl) ?_
  refine n_getr E G 0 8 h (fs := [.ref (b2 0), .ref (b7 0), .ref (b12 0), .ref (b17 0), .ref (b22 0), .ref (b27 0), .ref (b32 0), .ref (b37 0), .ref q41, .ref q42, .ref q43, .ref q44, .ref (b46 0), .ref q50, .ref (b52 0), .ref (b57 0), .int 0, .int 0, .int 0]) (by decide) a0 h0 rfl (fun w h => .tail _ (iA_23 h)) (by decide) (.tail _ qA_666) rfl rfl dX11_init_181 ?_
  refine lv_iload_n hx hb dX11_init_184 rfl (lv_at hl 0 rfl) ?_
  refine n_new E G hA (ci := 8) (fs := [.int 0, .int 0, .int 0, .null, .null, .null, .null, .null, .null, .null, .null, .null]) (fun w h => .tail _ (iA_16 h)) tyX8 tyX8_ok (.tail _ qA_662) (.tail _ qA_663) (.tail _ qA_47) rfl (by decide) (Nat.le_of_ble_eq_true rfl) (Nat.le_of_ble_eq_true rfl) dX11_init_185 (fun q92 H G => ?_)
  refine lv_dup hx hb dX11_init_188 rfl ?_
  refine n_initN (N := 1304) E G hA hxs nX.moved hml (n_X8 l D cI cJ cZ cMic cSrc cSt cAI cAJ) ⟨va_cnB (host := "AcousticCamera") 0 hts (gaC qA_582) rfl rfl rfl (hxs.2.2.2.2.2 _ (List.mem_of_getElem? (i := 5) rfl)) (hts _ (.tail _ qA_47)) (by decide +kernel) ⟨Nat.le_of_ble_eq_true rfl, Nat.le_of_ble_eq_true rfl⟩, rfl, hts _ (.tail _ qA_683)⟩ (cat_hi (Nat.le_refl _)) (cat_hi (Nat.le_refl _)) hl.1 (lv_room (Nat.le_of_ble_eq_true rfl)) dX11_init_189 ⟨Nat.le_of_ble_eq_true rfl, Nat.le_of_ble_eq_true rfl⟩ (fun b93 T94 H locs hb95 hT96 G => ?_)
  subst hb95
  rw [cat_cat, cat_cat] at G
  have G : cG D (cat 1304 ad b93) 1398 A s.heap H locs (cat 1304 S T94) := G
  have h0 : cat 1304 S T94 0 = .inr (11, [.ref (b2 0), .ref (b7 0), .ref (b12 0), .ref (b17 0), .ref (b22 0), .ref (b27 0), .ref (b32 0), .ref (b37 0), .ref q41, .ref q42, .ref q43, .ref q44, .ref (b46 0), .ref q50, .ref (b52 0), .ref (b57 0), .int 0, .int 0, .int 0]) := (cat_lo (by decide)).trans h0
  have a0 := (cat_lo (N := 1304) (g := b93) (show 0 < 1304 by decide)).trans a0
  have h6 : cat 1304 S T94 6 = .inr (3, [.ref (b2 0), .int 0, .int 0, .int (-1)]) := (cat_lo (by decide)).trans h6
  have a6 := (cat_lo (N := 1304) (g := b93) (show 6 < 1304 by decide)).trans a6
  have h430 : cat 1304 S T94 430 = .inl (cSt, 6, .inr (.inr (.inr (.inr (va_up (va_up (va_up (va_up (va_up (fun _ => none) 0 (some (b63 0))) 1 (some (b69 0))) 2 (some (b75 0))) 3 (some (b81 0))) 4 (some (b87 0))))))) := (cat_lo (by decide)).trans h430
  have a430 := (cat_lo (N := 1304) (g := b93) (show 430 < 1304 by decide)).trans a430
  have h431 : cat 1304 S T94 431 = .inl (cSt, 2, .inr (.inr (.inr (.inr (fun _ => none))))) := (cat_lo (by decide)).trans h431
  have a431 := (cat_lo (N := 1304) (g := b93) (show 431 < 1304 by decide)).trans a431
  have hBL := BL_push (b := b93) (T := T94) hBL (N := 1304) (by decide +kernel) rfl hT96
  generalize cat 1304 ad b93 = ad at G hBL h0 a0 h6 a6 h430 a430 h431 a431
  generalize cat 1304 S T94 = S at G hBL h0 h6 h430 h431
  have hv := hBL 18 (by decide) 0 (by decide)
  refine n_astq E G 430 5 1304 (r := (RX8, TX8, 12)) (ci := 8) (vs := [.int 0, .int 0, .int 0, .ref (b93 1), .ref (b93 2), .ref (b93 3), .ref (b93 4), .ref (b93 5), .ref (b93 6), .ref (b93 7), .ref (b93 8), .ref (b93 51)]) (k := 5) (f := (va_up (va_up (va_up (va_up (va_up (fun _ => none) 0 (some (b63 0))) 1 (some (b69 0))) 2 (some (b75 0))) 3 (some (b81 0))) 4 (some (b87 0)))) (by decide) a430 h430 rfl (by decide) hv.2 hv.1 rfl rfl (by decide) (by decide) dX11_init_192 (fun H locs G => ?_)
  have hBL := BL_put (q := 430) (e := .inl (cSt, 6, .inr (.inr (.inr (.inr (va_up (va_up (va_up (va_up (va_up (va_up (fun _ => none) 0 (some (b63 0))) 1 (some (b69 0))) 2 (some (b75 0))) 3 (some (b81 0))) 4 (some (b87 0))) 5 (some (b93 0)))))))) hBL (by decide +kernel)
  have h0 := (va_up_ne S (.inl (cSt, 6, .inr (.inr (.inr (.inr (va_up (va_up (va_up (va_up (va_up (va_up (fun _ => none) 0 (some (b63 0))) 1 (some (b69 0))) 2 (some (b75 0))) 3 (some (b81 0))) 4 (some (b87 0))) 5 (some (b93 0))))))) : va_E) (show 0 ≠ 430 by decide)).trans h0
  have h6 := (va_up_ne S (.inl (cSt, 6, .inr (.inr (.inr (.inr (va_up (va_up (va_up (va_up (va_up (va_up (fun _ => none) 0 (some (b63 0))) 1 (some (b69 0))) 2 (some (b75 0))) 3 (some (b81 0))) 4 (some (b87 0))) 5 (some (b93 0))))))) : va_E) (show 6 ≠ 430 by decide)).trans h6
  have h431 := (va_up_ne S (.inl (cSt, 6, .inr (.inr (.inr (.inr (va_up (va_up (va_up (va_up (va_up (va_up (fun _ => none) 0 (some (b63 0))) 1 (some (b69 0))) 2 (some (b75 0))) 3 (some (b81 0))) 4 (some (b87 0))) 5 (some (b93 0))))))) : va_E) (show 431 ≠ 430 by decide)).trans h431
  have h430 := va_up_self S 430 (.inl (cSt, 6, .inr (.inr (.inr (.inr (va_up (va_up (va_up (va_up (va_up (va_up (fun _ => none) 0 (some (b63 0))) 1 (some (b69 0))) 2 (some (b75 0))) 3 (some (b81 0))) 4 (some (b87 0))) 5 (some (b93 0))))))) : va_E)
  generalize va_up S 430 (.inl (cSt, 6, .inr (.inr (.inr (.inr (va_up (va_up (va_up (va_up (va_up (va_up (fun _ => none) 0 (some (b63 0))) 1 (some (b69 0))) 2 (some (b75 0))) 3 (some (b81 0))) 4 (some (b87 0))) 5 (some (b93 0)))))))) = S at G hBL h0 h6 h430 h431
  refine lv_iinc (v := 6) (lv' := [(1, .int 6), (0, .ref h)]) hx hb dX11_init_193 hl (k := 0) rfl (by decide +kernel) (by decide) rfl (fun ls hl => ?_)
  refine lv_goto (tgt := 174) hx hb dX11_init_196 (by decide) ?_
  refine lv_iload_n hx hb dX11_init_174 rfl (lv_at hl 0 rfl) ?_
  refine lv_bipush (v := 6) hx hb dX11_init_175 (by decide) ?_
  refine lv_icmp_ge (tgt := 199) hx hb dX11_init_177 (by decide) (fun c97 => ?_) (fun c97 => absurd (by decide +kernel) c97)
  refine lv_iconst (v := 0) hx hb dX11_init_199 (by decide) ?_
  refine lv_istore_n (lv' := [(1, .int 0), (0, .ref h)]) hx hb dX11_init_200 rfl hl (by decide) rfl (fun ls hl => ?_)
  refine lv_iload_n hx hb dX11_init_201 rfl (lv_at hl 0 rfl) ?_
  refine lv_iconst (v := 2) hx hb dX11_init_202 (by decide) ?_
  refine lv_icmp_ge (tgt := 225) hx hb dX11_init_203 (by decide) (fun c98 => absurd c98 (by decide +kernel)) (fun c98 => ?_)
  refine lv_aload_n hx hb dX11_init_206 rfl (lv_at hl 1 rfl) ?_
  refine n_getr E G 0 9 h (fs := [.ref (b2 0), .ref (b7 0), .ref (b12 0), .ref (b17 0), .ref (b22 0), .ref (b27 0), .ref (b32 0), .ref (b37 0), .ref q41, .ref q42, .ref q43, .ref q44, .ref (b46 0), .ref q50, .ref (b52 0), .ref (b57 0), .int 0, .int 0, .int 0]) (by decide) a0 h0 rfl (fun w h => .tail _ (iA_23 h)) (by decide) (.tail _ qA_667) rfl rfl dX11_init_207 ?_
  refine lv_iload_n hx hb dX11_init_210 rfl (lv_at hl 0 rfl) ?_
  refine n_new E G hA (ci := 8) (fs := [.int 0, .int 0, .int 0, .null, .null, .null, .null, .null, .null, .null, .null, .null]) (fun w h => .tail _ (iA_16 h)) tyX8 tyX8_ok (.tail _ qA_662) (.tail _ qA_663) (.tail _ qA_47) rfl (by decide) (Nat.le_of_ble_eq_true rfl) (Nat.le_of_ble_eq_true rfl) dX11_init_211 (fun q99 H G => ?_)
  refine lv_dup hx hb dX11_init_214 rfl ?_
  refine n_initN (N := 1398) E G hA hxs nX.moved hml (n_X8 l D cI cJ cZ cMic cSrc cSt cAI cAJ) ⟨va_cnB (host := "AcousticCamera") 0 hts (gaC qA_582) rfl rfl rfl (hxs.2.2.2.2.2 _ (List.mem_of_getElem? (i := 5) rfl)) (hts _ (.tail _ qA_47)) (by decide +kernel) ⟨Nat.le_of_ble_eq_true rfl, Nat.le_of_ble_eq_true rfl⟩, rfl, hts _ (.tail _ qA_683)⟩ (cat_hi (Nat.le_refl _)) (cat_hi (Nat.le_refl _)) hl.1 (lv_room (Nat.le_of_ble_eq_true rfl)) dX11_init_215 ⟨Nat.le_of_ble_eq_true rfl, Nat.le_of_ble_eq_true rfl⟩ (fun b100 T101 H locs hb102 hT103 G => ?_)
  subst hb102
  rw [cat_cat, cat_cat] at G
  have G : cG D (cat 1398 ad b100) 1492 A s.heap H locs (cat 1398 S T101) := G
  have h0 : cat 1398 S T101 0 = .inr (11, [.ref (b2 0), .ref (b7 0), .ref (b12 0), .ref (b17 0), .ref (b22 0), .ref (b27 0), .ref (b32 0), .ref (b37 0), .ref q41, .ref q42, .ref q43, .ref q44, .ref (b46 0), .ref q50, .ref (b52 0), .ref (b57 0), .int 0, .int 0, .int 0]) := (cat_lo (by decide)).trans h0
  have a0 := (cat_lo (N := 1398) (g := b100) (show 0 < 1398 by decide)).trans a0
  have h6 : cat 1398 S T101 6 = .inr (3, [.ref (b2 0), .int 0, .int 0, .int (-1)]) := (cat_lo (by decide)).trans h6
  have a6 := (cat_lo (N := 1398) (g := b100) (show 6 < 1398 by decide)).trans a6
  have h430 : cat 1398 S T101 430 = .inl (cSt, 6, .inr (.inr (.inr (.inr (va_up (va_up (va_up (va_up (va_up (va_up (fun _ => none) 0 (some (b63 0))) 1 (some (b69 0))) 2 (some (b75 0))) 3 (some (b81 0))) 4 (some (b87 0))) 5 (some (b93 0))))))) := (cat_lo (by decide)).trans h430
  have a430 := (cat_lo (N := 1398) (g := b100) (show 430 < 1398 by decide)).trans a430
  have h431 : cat 1398 S T101 431 = .inl (cSt, 2, .inr (.inr (.inr (.inr (fun _ => none))))) := (cat_lo (by decide)).trans h431
  have a431 := (cat_lo (N := 1398) (g := b100) (show 431 < 1398 by decide)).trans a431
  have hBL := BL_push (b := b100) (T := T101) hBL (N := 1398) (by decide +kernel) rfl hT103
  generalize cat 1398 ad b100 = ad at G hBL h0 a0 h6 a6 h430 a430 h431 a431
  generalize cat 1398 S T101 = S at G hBL h0 h6 h430 h431
  have hv := hBL 19 (by decide) 0 (by decide)
  refine n_astq E G 431 5 1398 (r := (RX8, TX8, 12)) (ci := 8) (vs := [.int 0, .int 0, .int 0, .ref (b100 1), .ref (b100 2), .ref (b100 3), .ref (b100 4), .ref (b100 5), .ref (b100 6), .ref (b100 7), .ref (b100 8), .ref (b100 51)]) (k := 0) (f := (fun _ => none)) (by decide) a431 h431 rfl (by decide) hv.2 hv.1 rfl rfl (by decide) (by decide) dX11_init_218 (fun H locs G => ?_)
  have hBL := BL_put (q := 431) (e := .inl (cSt, 2, .inr (.inr (.inr (.inr (va_up (fun _ => none) 0 (some (b100 0)))))))) hBL (by decide +kernel)
  have h0 := (va_up_ne S (.inl (cSt, 2, .inr (.inr (.inr (.inr (va_up (fun _ => none) 0 (some (b100 0))))))) : va_E) (show 0 ≠ 431 by decide)).trans h0
  have h6 := (va_up_ne S (.inl (cSt, 2, .inr (.inr (.inr (.inr (va_up (fun _ => none) 0 (some (b100 0))))))) : va_E) (show 6 ≠ 431 by decide)).trans h6
  have h430 := (va_up_ne S (.inl (cSt, 2, .inr (.inr (.inr (.inr (va_up (fun _ => none) 0 (some (b100 0))))))) : va_E) (show 430 ≠ 431 by decide)).trans h430
  have h431 := va_up_self S 431 (.inl (cSt, 2, .inr (.inr (.inr (.inr (va_up (fun _ => none) 0 (some (b100 0))))))) : va_E)
  generalize va_up S 431 (.inl (cSt, 2, .inr (.inr (.inr (.inr (va_up (fun _ => none) 0 (some (b100 0)))))))) = S at G hBL h0 h6 h430 h431
  refine lv_iinc (v := 1) (lv' := [(1, .int 1), (0, .ref h)]) hx hb dX11_init_219 hl (k := 0) rfl (by decide +kernel) (by decide) rfl (fun ls hl => ?_)
  refine lv_goto (tgt := 201) hx hb dX11_init_222 (by decide) ?_
  refine lv_iload_n hx hb dX11_init_201 rfl (lv_at hl 0 rfl) ?_
  refine lv_iconst (v := 2) hx hb dX11_init_202 (by decide) ?_
  refine lv_icmp_ge (tgt := 225) hx hb dX11_init_203 (by decide) (fun c104 => absurd c104 (by decide +kernel)) (fun c104 => ?_)
  refine lv_aload_n hx hb dX11_init_206 rfl (lv_at hl 1 rfl) ?_
  refine n_getr E G 0 9 h (fs := [.ref (b2 0), .ref (b7 0), .ref (b12 0), .ref (b17 0), .ref (b22 0), .ref (b27 0), .ref (b32 0), .ref (b37 0), .ref q41, .ref q42, .ref q43, .ref q44, .ref (b46 0), .ref q50, .ref (b52 0), .ref (b57 0), .int 0, .int 0, .int 0]) (by decide) a0 h0 rfl (fun w h => .tail _ (iA_23 h)) (by decide) (.tail _ qA_667) rfl rfl dX11_init_207 ?_
  refine lv_iload_n hx hb dX11_init_210 rfl (lv_at hl 0 rfl) ?_
  refine n_new E G hA (ci := 8) (fs := [.int 0, .int 0, .int 0, .null, .null, .null, .null, .null, .null, .null, .null, .null]) (fun w h => .tail _ (iA_16 h)) tyX8 tyX8_ok (.tail _ qA_662) (.tail _ qA_663) (.tail _ qA_47) rfl (by decide) (Nat.le_of_ble_eq_true rfl) (Nat.le_of_ble_eq_true rfl) dX11_init_211 (fun q105 H G => ?_)
  refine lv_dup hx hb dX11_init_214 rfl ?_
  refine n_initN (N := 1492) E G hA hxs nX.moved hml (n_X8 l D cI cJ cZ cMic cSrc cSt cAI cAJ) ⟨va_cnB (host := "AcousticCamera") 0 hts (gaC qA_582) rfl rfl rfl (hxs.2.2.2.2.2 _ (List.mem_of_getElem? (i := 5) rfl)) (hts _ (.tail _ qA_47)) (by decide +kernel) ⟨Nat.le_of_ble_eq_true rfl, Nat.le_of_ble_eq_true rfl⟩, rfl, hts _ (.tail _ qA_683)⟩ (cat_hi (Nat.le_refl _)) (cat_hi (Nat.le_refl _)) hl.1 (lv_room (Nat.le_of_ble_eq_true rfl)) dX11_init_215 ⟨Nat.le_of_ble_eq_true rfl, Nat.le_of_ble_eq_true rfl⟩ (fun b106 T107 H locs hb108 hT109 G => ?_)
  subst hb108
  rw [cat_cat, cat_cat] at G
  have G : cG D (cat 1492 ad b106) 1586 A s.heap H locs (cat 1492 S T107) := G
  have h0 : cat 1492 S T107 0 = .inr (11, [.ref (b2 0), .ref (b7 0), .ref (b12 0), .ref (b17 0), .ref (b22 0), .ref (b27 0), .ref (b32 0), .ref (b37 0), .ref q41, .ref q42, .ref q43, .ref q44, .ref (b46 0), .ref q50, .ref (b52 0), .ref (b57 0), .int 0, .int 0, .int 0]) := (cat_lo (by decide)).trans h0
  have a0 := (cat_lo (N := 1492) (g := b106) (show 0 < 1492 by decide)).trans a0
  have h6 : cat 1492 S T107 6 = .inr (3, [.ref (b2 0), .int 0, .int 0, .int (-1)]) := (cat_lo (by decide)).trans h6
  have a6 := (cat_lo (N := 1492) (g := b106) (show 6 < 1492 by decide)).trans a6
  have h430 : cat 1492 S T107 430 = .inl (cSt, 6, .inr (.inr (.inr (.inr (va_up (va_up (va_up (va_up (va_up (va_up (fun _ => none) 0 (some (b63 0))) 1 (some (b69 0))) 2 (some (b75 0))) 3 (some (b81 0))) 4 (some (b87 0))) 5 (some (b93 0))))))) := (cat_lo (by decide)).trans h430
  have a430 := (cat_lo (N := 1492) (g := b106) (show 430 < 1492 by decide)).trans a430
  have h431 : cat 1492 S T107 431 = .inl (cSt, 2, .inr (.inr (.inr (.inr (va_up (fun _ => none) 0 (some (b100 0))))))) := (cat_lo (by decide)).trans h431
  have a431 := (cat_lo (N := 1492) (g := b106) (show 431 < 1492 by decide)).trans a431
  have hBL := BL_push (b := b106) (T := T107) hBL (N := 1492) (by decide +kernel) rfl hT109
  generalize cat 1492 ad b106 = ad at G hBL h0 a0 h6 a6 h430 a430 h431 a431
  generalize cat 1492 S T107 = S at G hBL h0 h6 h430 h431
  have hv := hBL 20 (by decide) 0 (by decide)
  refine n_astq E G 431 5 1492 (r := (RX8, TX8, 12)) (ci := 8) (vs := [.int 0, .int 0, .int 0, .ref (b106 1), .ref (b106 2), .ref (b106 3), .ref (b106 4), .ref (b106 5), .ref (b106 6), .ref (b106 7), .ref (b106 8), .ref (b106 51)]) (k := 1) (f := (va_up (fun _ => none) 0 (some (b100 0)))) (by decide) a431 h431 rfl (by decide) hv.2 hv.1 rfl rfl (by decide) (by decide) dX11_init_218 (fun H locs G => ?_)
  have hBL := BL_put (q := 431) (e := .inl (cSt, 2, .inr (.inr (.inr (.inr (va_up (va_up (fun _ => none) 0 (some (b100 0))) 1 (some (b106 0)))))))) hBL (by decide +kernel)
  have h0 := (va_up_ne S (.inl (cSt, 2, .inr (.inr (.inr (.inr (va_up (va_up (fun _ => none) 0 (some (b100 0))) 1 (some (b106 0))))))) : va_E) (show 0 ≠ 431 by decide)).trans h0
  have h6 := (va_up_ne S (.inl (cSt, 2, .inr (.inr (.inr (.inr (va_up (va_up (fun _ => none) 0 (some (b100 0))) 1 (some (b106 0))))))) : va_E) (show 6 ≠ 431 by decide)).trans h6
  have h430 := (va_up_ne S (.inl (cSt, 2, .inr (.inr (.inr (.inr (va_up (va_up (fun _ => none) 0 (some (b100 0))) 1 (some (b106 0))))))) : va_E) (show 430 ≠ 431 by decide)).trans h430
  have h431 := va_up_self S 431 (.inl (cSt, 2, .inr (.inr (.inr (.inr (va_up (va_up (fun _ => none) 0 (some (b100 0))) 1 (some (b106 0))))))) : va_E)
  generalize va_up S 431 (.inl (cSt, 2, .inr (.inr (.inr (.inr (va_up (va_up (fun _ => none) 0 (some (b100 0))) 1 (some (b106 0)))))))) = S at G hBL h0 h6 h430 h431
  refine lv_iinc (v := 2) (lv' := [(1, .int 2), (0, .ref h)]) hx hb dX11_init_219 hl (k := 0) rfl (by decide +kernel) (by decide) rfl (fun ls hl => ?_)
  refine lv_goto (tgt := 201) hx hb dX11_init_222 (by decide) ?_
  refine lv_iload_n hx hb dX11_init_201 rfl (lv_at hl 0 rfl) ?_
  refine lv_iconst (v := 2) hx hb dX11_init_202 (by decide) ?_
  refine lv_icmp_ge (tgt := 225) hx hb dX11_init_203 (by decide) (fun c110 => ?_) (fun c110 => absurd (by decide +kernel) c110)
  refine W.widen (k := 1585) (n := 44639) (Nat.le_of_ble_eq_true rfl) (Nat.le_of_ble_eq_true rfl) ?_
  have e1 : ad 1 = (b2 0) := (hBL 0 (by decide) 0 (by decide)).2
  have e7 : ad 7 = (b12 0) := (hBL 1 (by decide) 0 (by decide)).2
  have e22 : ad 22 = (b17 0) := (hBL 2 (by decide) 0 (by decide)).2
  have e66 : ad 66 = (b22 0) := (hBL 3 (by decide) 0 (by decide)).2
  have e154 : ad 154 = (b27 0) := (hBL 4 (by decide) 0 (by decide)).2
  have e242 : ad 242 = (b32 0) := (hBL 5 (by decide) 0 (by decide)).2
  have e336 : ad 336 = (b37 0) := (hBL 6 (by decide) 0 (by decide)).2
  have e432 : ad 432 = q43 := (hBL 7 (by decide) 0 (by decide)).2
  have e433 : ad 433 = q44 := (hBL 8 (by decide) 0 (by decide)).2
  have e434 : ad 434 = (b46 0) := (hBL 9 (by decide) 0 (by decide)).2
  have e477 : ad 477 = q50 := (hBL 10 (by decide) 0 (by decide)).2
  have e478 : ad 478 = (b52 0) := (hBL 11 (by decide) 0 (by decide)).2
  have e656 : ad 656 = (b57 0) := (hBL 12 (by decide) 0 (by decide)).2
  have e834 : ad 834 = (b63 0) := (hBL 13 (by decide) 0 (by decide)).2
  have e928 : ad 928 = (b69 0) := (hBL 14 (by decide) 0 (by decide)).2
  have e1022 : ad 1022 = (b75 0) := (hBL 15 (by decide) 0 (by decide)).2
  have e1116 : ad 1116 = (b81 0) := (hBL 16 (by decide) 0 (by decide)).2
  have e1210 : ad 1210 = (b87 0) := (hBL 17 (by decide) 0 (by decide)).2
  have e1304 : ad 1304 = (b93 0) := (hBL 18 (by decide) 0 (by decide)).2
  have e1398 : ad 1398 = (b100 0) := (hBL 19 (by decide) 0 (by decide)).2
  have e1492 : ad 1492 = (b106 0) := (hBL 20 (by decide) 0 (by decide)).2
  have p0 : S 0 = iX11_0 cI cJ cZ cMic cSrc cSt cAI cAJ ad := by
    unfold iX11_0
    rw [e1, e7, e22, e66, e154, e242, e336, e432, e433, e434, e477, e478, e656, a6, a430, a431]
    exact h0
  have p6 : S 6 = iX11_6 cI cJ cZ cMic cSrc cSt cAI cAJ ad := by
    unfold iX11_6
    rw [e1]
    exact h6
  have p430 : S 430 = iX11_430 cI cJ cZ cMic cSrc cSt cAI cAJ ad := by
    unfold iX11_430
    rw [e834, e928, e1022, e1116, e1210, e1304]
    exact h430
  have p431 : S 431 = iX11_431 cI cJ cZ cMic cSrc cSt cAI cAJ ad := by
    unfold iX11_431
    rw [e1398, e1492]
    exact h431
  exact W.vret hx hb hr (fun t ht hW => ⟨⟨(ad, S), rfl, ⟨a0, p0, p6, p430, p431, ⟨_, hBL⟩⟩, by rw [ht]; exact G.1, va_K.moved hW.alike hK, G.2.1⟩, G.2.2.F ht⟩) G.2.2.2.2 dX11_init_225
