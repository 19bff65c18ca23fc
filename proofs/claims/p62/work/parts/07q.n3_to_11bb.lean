section
/-! 07q.n3.lean.txt -/
/-- AcousticCamera: its blocks of cells -/
def n3off : Nat → Nat := fun j => ([1, 7, 22, 66, 154, 242, 336, 432, 433, 434, 477, 478, 656, 834, 928, 1022, 1116, 1210, 1304, 1398, 1492] : List Nat).getD j 0
def n3len : Nat → Nat := fun j => ([5, 15, 44, 88, 88, 94, 94, 1, 1, 43, 1, 178, 178, 94, 94, 94, 94, 94, 94, 94, 94] : List Nat).getD j 0
def n3blk (cI cJ cZ cMic cSrc cSt cAI cAJ : ClassId) (j : Nat) (b : Nat → Nat) : Nat → va_E := match j with
  | 0 => iX9 cI cJ cZ cMic cSrc cSt cAI cAJ b
  | 1 => iX5 cI cJ cZ cMic cSrc cSt cAI cAJ b
  | 2 => iX0 cI cJ cZ cMic cSrc cSt cAI cAJ b
  | 3 => iX4 cI cJ cZ cMic cSrc cSt cAI cAJ b
  | 4 => iX4 cI cJ cZ cMic cSrc cSt cAI cAJ b
  | 5 => iX8 cI cJ cZ cMic cSrc cSt cAI cAJ b
  | 6 => iX8 cI cJ cZ cMic cSrc cSt cAI cAJ b
  | 7 => fun _ => .inl (cZ, 2, .inl (fun _ => 0))
  | 8 => fun _ => .inl (cI, 12, .inl (fun _ => 0))
  | 9 => iX10_12 cI cJ cZ cMic cSrc cSt cAI cAJ b
  | 10 => fun _ => .inl (cI, 155, .inl (fun _ => 0))
  | 11 => iX6 cI cJ cZ cMic cSrc cSt cAI cAJ b
  | 12 => iX6 cI cJ cZ cMic cSrc cSt cAI cAJ b
  | 13 => iX8 cI cJ cZ cMic cSrc cSt cAI cAJ b
  | 14 => iX8 cI cJ cZ cMic cSrc cSt cAI cAJ b
  | 15 => iX8 cI cJ cZ cMic cSrc cSt cAI cAJ b
  | 16 => iX8 cI cJ cZ cMic cSrc cSt cAI cAJ b
  | 17 => iX8 cI cJ cZ cMic cSrc cSt cAI cAJ b
  | 18 => iX8 cI cJ cZ cMic cSrc cSt cAI cAJ b
  | 19 => iX8 cI cJ cZ cMic cSrc cSt cAI cAJ b
  | 20 => iX8 cI cJ cZ cMic cSrc cSt cAI cAJ b
  | _ => fun _ => .inr (0, [])
def BL (cI cJ cZ cMic cSrc cSt cAI cAJ : ClassId) (n : Nat) (ad : Nat → Nat) (S : Nat → va_E) (bs : Nat → Nat → Nat) : Prop := ∀ j, j < n → ∀ i, i < n3len j → S (n3off j + i) = n3blk cI cJ cZ cMic cSrc cSt cAI cAJ j (bs j) i ∧ ad (n3off j + i) = bs j i
theorem cat_cat {α : Type} {N : Nat} {f g h : Nat → α} : cat N (cat N f g) h = cat N f h := by
  funext n
  by_cases q : n < N
  · rw [cat_lo q, cat_lo q, cat_lo q]
  · rw [cat_hi (Nat.not_lt.mp q), cat_hi (Nat.not_lt.mp q)]
section BLR
variable {cI cJ cZ cMic cSrc cSt cAI cAJ : ClassId} {n N q : Nat} {ad b g1 : Nat → Nat} {S T g2 : Nat → va_E} {bs : Nat → Nat → Nat} {e : va_E}
theorem BL_push (h : BL cI cJ cZ cMic cSrc cSt cAI cAJ n ad S bs) (hN : ∀ j, j < n → n3off j + n3len j ≤ N) (ho : n3off n = N) (hT : ∀ i, i < n3len n → T i = n3blk cI cJ cZ cMic cSrc cSt cAI cAJ n b i) : BL cI cJ cZ cMic cSrc cSt cAI cAJ (n + 1) (cat N ad b) (cat N S T) (va_up bs n b) := by
  intro j hj i hi
  rcases Nat.lt_or_eq_of_le (Nat.le_of_lt_succ hj) with h1 | rfl
  · have h2 : n3off j + i < N := Nat.lt_of_lt_of_le (Nat.add_lt_add_left hi _) (hN j h1)
    rw [va_up_ne _ _ (Nat.ne_of_lt h1), cat_lo h2, cat_lo h2]
    exact h j h1 i hi
  · have h2 : N ≤ n3off j + i := by rw [ho]; exact Nat.le_add_right _ _
    rw [va_up_self, cat_hi h2, cat_hi h2, ho, Nat.add_sub_cancel_left]
    exact ⟨hT i hi, rfl⟩
theorem BL_skip (h : BL cI cJ cZ cMic cSrc cSt cAI cAJ n ad S bs) (hN : ∀ j, j < n → n3off j + n3len j ≤ N) : BL cI cJ cZ cMic cSrc cSt cAI cAJ n (cat N ad g1) (cat N S g2) bs := by
  intro j hj i hi
  have h2 : n3off j + i < N := Nat.lt_of_lt_of_le (Nat.add_lt_add_left hi _) (hN j hj)
  rw [cat_lo h2, cat_lo h2]
  exact h j hj i hi
theorem BL_put (h : BL cI cJ cZ cMic cSrc cSt cAI cAJ n ad S bs) (hq : ∀ j, j < n → n3off j + n3len j ≤ q ∨ q < n3off j) : BL cI cJ cZ cMic cSrc cSt cAI cAJ n ad (va_up S q e) bs := by
  intro j hj i hi
  rw [va_up_ne _ _ (show n3off j + i ≠ q from fun h9 => by rcases hq j hj with h3 | h3 <;> omega)]
  exact h j hj i hi
end BLR
def iX11_0 (cI cJ cZ cMic cSrc cSt cAI cAJ : ClassId) (b : Nat → Nat) : va_E := .inr (11, [.ref (b 1), .ref (b 6), .ref (b 7), .ref (b 22), .ref (b 66), .ref (b 154), .ref (b 242), .ref (b 336), .ref (b 430), .ref (b 431), .ref (b 432), .ref (b 433), .ref (b 434), .ref (b 477), .ref (b 478), .ref (b 656), .int 0, .int 0, .int 0])
def iX11_6 (cI cJ cZ cMic cSrc cSt cAI cAJ : ClassId) (b : Nat → Nat) : va_E := .inr (3, [.ref (b 1), .int 0, .int 0, .int (-1)])
def iX11_430 (cI cJ cZ cMic cSrc cSt cAI cAJ : ClassId) (b : Nat → Nat) : va_E := .inl (cSt, 6, .inr (.inr (.inr (.inr (va_up (va_up (va_up (va_up (va_up (va_up (fun _ => none) 0 (some (b 834))) 1 (some (b 928))) 2 (some (b 1022))) 3 (some (b 1116))) 4 (some (b 1210))) 5 (some (b 1304)))))))
def iX11_431 (cI cJ cZ cMic cSrc cSt cAI cAJ : ClassId) (b : Nat → Nat) : va_E := .inl (cSt, 2, .inr (.inr (.inr (.inr (va_up (va_up (fun _ => none) 0 (some (b 1398))) 1 (some (b 1492)))))))
set_option maxHeartbeats 8000000 in
set_option maxRecDepth 100000 in
theorem n_X11 (l : Launch) (D : va_G) (cI cJ cZ cMic cSrc cSt cAI cAJ : ClassId) : cN l yX11_init (Cond.code yX11_init cX11_init 2 none :: wsA) 3 62 1585 44639 D (CT cI cJ cZ cMic cSrc cSt cAI cAJ) nX 11 [.null, .null, .null, .null, .null, .null, .null, .null, .null, .null, .null, .null, .null, .null, .null, .null, .int 0, .int 0, .int 0] 1586 (fun b T => T 0 = iX11_0 cI cJ cZ cMic cSrc cSt cAI cAJ b ∧ T 6 = iX11_6 cI cJ cZ cMic cSrc cSt cAI cAJ b ∧ T 430 = iX11_430 cI cJ cZ cMic cSrc cSt cAI cAJ b ∧ T 431 = iX11_431 cI cJ cZ cMic cSrc cSt cAI cAJ b ∧ ∃ bs, BL cI cJ cZ cMic cSrc cSt cAI cAJ 21 b T bs) := by
  intro h sz
  refine Met.ofW (cc := cX11_init) (maxL := 2) (ret := none) (by decide) rfl ?_
  intro p e s m args below meth c s₁ B hml hv
  obtain ⟨rfl, hsz, hP, hK, hD0, hxs⟩ := hv
  have hx := B.exec
  have hb := B.bytes
  have hr := B.returns
  have hts := atoms_spec (ws := (Cond.code yX11_init cX11_init 2 none :: wsA)) B.pre
  have hown : s.vm.findClass RX11 = some m.cls := findClass_of_methodNamed B.named
  have hlocks := B.notSynchronized
  have hin : meth.name = "<init>" := (name_of_methodNamed B.named B.method).1
  subst hsz
  have hD := hD0.self (sz := s.heap.size)
  generalize hAe : va_A (cW (fun _ => h) 1 (fun _ => .inr (11, [.null, .null, .null, .null, .null, .null, .null, .null, .null, .null, .null, .null, .null, .null, .null, .null, .int 0, .int 0, .int 0]))) s.heap.size = A at hD ⊢
  have hA : ∀ q : Nat, s.heap.size ≤ q → A q := fun q h => by rw [← hAe]; exact Or.inr h
  have G : cG D (fun _ => h) 1 A s.heap s.heap [] (fun _ => .inr (11, [.null, .null, .null, .null, .null, .null, .null, .null, .null, .null, .null, .null, .null, .null, .null, .null, .int 0, .int 0, .int 0])) := ⟨hP, hD, va_S.rf⟩
  have E : cE p c cX11_init s m ([.ref h] : List Value).toArray (Cond.code yX11_init cX11_init 2 none :: wsA) D RX11 (CT cI cJ cZ cMic cSrc cSt cAI cAJ) := ⟨hx, hb, hts, hown, hK⟩
  have hl := lv_entry ([.ref h]) (n := 2) (Nat.le_of_ble_eq_true rfl)
  rw [lg_entry_eq]
  generalize (lg_sl ([.ref h]) ++ List.replicate (2 - (lg_sl ([.ref h])).length) Slot.unset).toArray = ls at hl ⊢
  have hl : lv_has ls 2 [(0, .ref h)] := hl
  have h0 : (fun _ : Nat => (.inr (11, [.null, .null, .null, .null, .null, .null, .null, .null, .null, .null, .null, .null, .null, .null, .null, .null, .int 0, .int 0, .int 0]) : va_E)) 0 = .inr (11, [.null, .null, .null, .null, .null, .null, .null, .null, .null, .null, .null, .null, .null, .null, .null, .null, .int 0, .int 0, .int 0]) := rfl
  have a0 : (fun _ : Nat => h) 0 = h := rfl
  have hBL : BL cI cJ cZ cMic cSrc cSt cAI cAJ 0 (fun _ => h) (fun _ => .inr (11, [.null, .null, .null, .null, .null, .null, .null, .null, .null, .null, .null, .null, .null, .null, .null, .null, .int 0, .int 0, .int 0])) (fun _ _ => 0) := fun j hj => absurd hj (Nat.not_lt_zero j)
  generalize (fun _ : Nat => h) = ad at G hBL a0
  generalize (fun _ : Nat => (.inr (11, [.null, .null, .null, .null, .null, .null, .null, .null, .null, .null, .null, .null, .null, .null, .null, .null, .int 0, .int 0, .int 0]) : va_E)) = S at G hBL h0
  refine lv_aload_n hx hb dX11_init_0 rfl (lv_at hl 0 rfl) ?_
  refine W.objInit hx hb hown (hts _ (.tail _ qA_645)) (hts _ (.tail _ qA_2)) (hts _ (.tail _ qA_3)) rfl (by rw [hml]; exact hl.1) rfl dX11_init_1 (Nat.le_of_ble_eq_true rfl) (Nat.le_of_ble_eq_true rfl) ?_
  refine W.eq (g2 := F0 m 4 ls []) rfl ?_
  refine lv_aload_n hx hb dX11_init_4 rfl (lv_at hl 0 rfl) ?_
  refine n_new E G hA (ci := 9) (fs := [.null, .int 0, .null, .null, .null, .int 0]) (fun w h => .tail _ (iA_18 h)) tyX9 tyX9_ok (.tail _ qA_646) (.tail _ qA_647) (.tail _ qA_185) rfl (by decide) (Nat.le_of_ble_eq_true rfl) (Nat.le_of_ble_eq_true rfl) dX11_init_5 (fun q1 H G => ?_)
  refine lv_dup hx hb dX11_init_8 rfl ?_
  refine n_initN (N := 1) E G hA hxs nX.moved hml (n_X9 l D cI cJ cZ cMic cSrc cSt cAI cAJ) ⟨va_cnB (host := "AcousticCamera") 0 hts (gaC qA_629) rfl rfl rfl (hxs.2.2.2.2.2 _ (List.mem_of_getElem? (i := 0) rfl)) (hts _ (.tail _ qA_185)) (by decide +kernel) ⟨Nat.le_of_ble_eq_true rfl, Nat.le_of_ble_eq_true rfl⟩, rfl, hts _ (.tail _ qA_677)⟩ (cat_hi (Nat.le_refl _)) (cat_hi (Nat.le_refl _)) hl.1 (lv_room (Nat.le_of_ble_eq_true rfl)) dX11_init_9 ⟨Nat.le_of_ble_eq_true rfl, Nat.le_of_ble_eq_true rfl⟩ (fun b2 T3 H locs hb4 hT5 G => ?_)
  subst hb4
  rw [cat_cat, cat_cat] at G
  have G : cG D (cat 1 ad b2) 6 A s.heap H locs (cat 1 S T3) := G
  have h0 : cat 1 S T3 0 = .inr (11, [.null, .null, .null, .null, .null, .null, .null, .null, .null, .null, .null, .null, .null, .null, .null, .null, .int 0, .int 0, .int 0]) := (cat_lo (by decide)).trans h0
  have a0 := (cat_lo (N := 1) (g := b2) (show 0 < 1 by decide)).trans a0
  have hBL := BL_push (b := b2) (T := T3) hBL (N := 1) (by decide +kernel) rfl hT5
  generalize cat 1 ad b2 = ad at G hBL h0 a0
  generalize cat 1 S T3 = S at G hBL h0
  refine n_putF E G 0 0 h (fs := [.null, .null, .null, .null, .null, .null, .null, .null, .null, .null, .null, .null, .null, .null, .null, .null, .int 0, .int 0, .int 0]) (fs1 := [.ref (b2 0), .null, .null, .null, .null, .null, .null, .null, .null, .null, .null, .null, .null, .null, .null, .null, .int 0, .int 0, .int 0]) (by decide) a0 h0 rfl (fun w h => .tail _ (iA_23 h)) tyX11 tyX11_ok nmX11 (by decide) (.tail _ qA_648) ⟨rfl, rfl, rfl⟩ hin rfl rfl rfl (Nat.le_of_ble_eq_true rfl) rfl dX11_init_12 (fun H locs G => ?_)
  have hBL := BL_put (q := 0) (e := .inr (11, [.ref (b2 0), .null, .null, .null, .null, .null, .null, .null, .null, .null, .null, .null, .null, .null, .null, .null, .int 0, .int 0, .int 0])) hBL (by decide +kernel)
  have h0 := va_up_self S 0 (.inr (11, [.ref (b2 0), .null, .null, .null, .null, .null, .null, .null, .null, .null, .null, .null, .null, .null, .null, .null, .int 0, .int 0, .int 0]) : va_E)
  generalize va_up S 0 (.inr (11, [.ref (b2 0), .null, .null, .null, .null, .null, .null, .null, .null, .null, .null, .null, .null, .null, .null, .null, .int 0, .int 0, .int 0])) = S at G hBL h0
  refine lv_aload_n hx hb dX11_init_15 rfl (lv_at hl 0 rfl) ?_
  refine n_new E G hA (ci := 3) (fs := [.null, .int 0, .int 0, .int 0]) (fun w h => .tail _ (iA_17 h)) tyX3 tyX3_ok (.tail _ qA_649) (.tail _ qA_650) (.tail _ qA_222) rfl (by decide) (Nat.le_of_ble_eq_true rfl) (Nat.le_of_ble_eq_true rfl) dX11_init_16 (fun q6 H G => ?_)
  refine lv_dup hx hb dX11_init_19 rfl ?_
  refine lv_aload_n hx hb dX11_init_20 rfl (lv_at hl 0 rfl) ?_
  refine n_getr E G 0 0 h (fs := [.ref (b2 0), .null, .null, .null, .null, .null, .null, .null, .null, .null, .null, .null, .null, .null, .null, .null, .int 0, .int 0, .int 0]) (by decide) a0 h0 rfl (fun w h => .tail _ (iA_23 h)) (by decide) (.tail _ qA_648) rfl rfl dX11_init_21 ?_
  refine n_initA (As := [.ref (b2 0)]) (rest := [.ref q6, .ref h]) (N := 6) E G hA hxs nX.moved hml (n_X3 l D cI cJ cZ cMic cSrc cSt cAI cAJ (b2 0)) (cwI 1 hts (gaC qA_171) rfl rfl rfl (hts _ (.tail _ qA_222)) (hts _ (.tail _ qA_678)) (hts _ (.tail _ qA_679)) rfl (by decide +kernel) ⟨Nat.le_of_ble_eq_true rfl, Nat.le_of_ble_eq_true rfl⟩) (cat_hi (Nat.le_refl _)) (cat_hi (Nat.le_refl _)) rfl hl.1 rfl (lv_room (Nat.le_of_ble_eq_true rfl)) dX11_init_24 ⟨Nat.le_of_ble_eq_true rfl, Nat.le_of_ble_eq_true rfl⟩ (fun b7 T8 H locs hb9 hT10 G => ?_)
  subst hb9
  rw [cat_cat, cat_cat] at G
  have G : cG D (cat 6 ad b7) 7 A s.heap H locs (cat 6 S T8) := G
  have h0 : cat 6 S T8 0 = .inr (11, [.ref (b2 0), .null, .null, .null, .null, .null, .null, .null, .null, .null, .null, .null, .null, .null, .null, .null, .int 0, .int 0, .int 0]) := (cat_lo (by decide)).trans h0
  have a0 := (cat_lo (N := 6) (g := b7) (show 0 < 6 by decide)).trans a0
  have hBL := BL_skip (g1 := b7) (g2 := T8) hBL (N := 6) (by decide +kernel)
  have h6 : cat 6 S T8 6 = .inr (3, [.ref (b2 0), .int 0, .int 0, .int (-1)]) := (cat_hi (Nat.le_refl _)).trans ((congrArg T8 (Nat.sub_self _)).trans (hT10 0 (by decide)))
  have a6 : cat 6 ad b7 6 = b7 0 := (cat_hi (Nat.le_refl _)).trans (congrArg b7 (Nat.sub_self _))
  generalize cat 6 ad b7 = ad at G hBL h0 a0 h6 a6
  generalize cat 6 S T8 = S at G hBL h0 h6
  refine n_putF E G 0 1 h (fs := [.ref (b2 0), .null, .null, .null, .null, .null, .null, .null, .null, .null, .null, .null, .null, .null, .null, .null, .int 0, .int 0, .int 0]) (fs1 := [.ref (b2 0), .ref (b7 0), .null, .null, .null, .null, .null, .null, .null, .null, .null, .null, .null, .null, .null, .null, .int 0, .int 0, .int 0]) (by decide) a0 h0 rfl (fun w h => .tail _ (iA_23 h)) tyX11 tyX11_ok nmX11 (by decide) (.tail _ qA_651) ⟨rfl, rfl, rfl⟩ hin rfl rfl rfl (Nat.le_of_ble_eq_true rfl) rfl dX11_init_27 (fun H locs G => ?_)
  have hBL := BL_put (q := 0) (e := .inr (11, [.ref (b2 0), .ref (b7 0), .null, .null, .null, .null, .null, .null, .null, .null, .null, .null, .null, .null, .null, .null, .int 0, .int 0, .int 0])) hBL (by decide +kernel)
  have h6 := (va_up_ne S (.inr (11, [.ref (b2 0), .ref (b7 0), .null, .null, .null, .null, .null, .null, .null, .null, .null, .null, .null, .null, .null, .null, .int 0, .int 0, .int 0]) : va_E) (show 6 ≠ 0 by decide)).trans h6
  have h0 := va_up_self S 0 (.inr (11, [.ref (b2 0), .ref (b7 0), .null, .null, .null, .null, .null, .null, .null, .null, .null, .null, .null, .null, .null, .null, .int 0, .int 0, .int 0]) : va_E)
  generalize va_up S 0 (.inr (11, [.ref (b2 0), .ref (b7 0), .null, .null, .null, .null, .null, .null, .null, .null, .null, .null, .null, .null, .null, .null, .int 0, .int 0, .int 0])) = S at G hBL h0 h6
  refine lv_aload_n hx hb dX11_init_30 rfl (lv_at hl 0 rfl) ?_
  refine n_new E G hA (ci := 5) (fs := [.null, .null]) (fun w h => .tail _ (iA_22 h)) tyX5 tyX5_ok (.tail _ qA_652) (.tail _ qA_653) (.tail _ qA_475) rfl (by decide) (Nat.le_of_ble_eq_true rfl) (Nat.le_of_ble_eq_true rfl) dX11_init_31 (fun q11 H G => ?_)
  refine lv_dup hx hb dX11_init_34 rfl ?_
  refine n_initN (N := 7) E G hA hxs nX.moved hml (n_X5 l D cI cJ cZ cMic cSrc cSt cAI cAJ) ⟨va_cnB (host := "AcousticCamera") 0 hts (gaC qA_452) rfl rfl rfl (hxs.2.2.2.2.2 _ (List.mem_of_getElem? (i := 1) rfl)) (hts _ (.tail _ qA_475)) (by decide +kernel) ⟨Nat.le_of_ble_eq_true rfl, Nat.le_of_ble_eq_true rfl⟩, rfl, hts _ (.tail _ qA_680)⟩ (cat_hi (Nat.le_refl _)) (cat_hi (Nat.le_refl _)) hl.1 (lv_room (Nat.le_of_ble_eq_true rfl)) dX11_init_35 ⟨Nat.le_of_ble_eq_true rfl, Nat.le_of_ble_eq_true rfl⟩ (fun b12 T13 H locs hb14 hT15 G => ?_)
  subst hb14
  rw [cat_cat, cat_cat] at G
  have G : cG D (cat 7 ad b12) 22 A s.heap H locs (cat 7 S T13) := G
  have h0 : cat 7 S T13 0 = .inr (11, [.ref (b2 0), .ref (b7 0), .null, .null, .null, .null, .null, .null, .null, .null, .null, .null, .null, .null, .null, .null, .int 0, .int 0, .int 0]) := (cat_lo (by decide)).trans h0
  have a0 := (cat_lo (N := 7) (g := b12) (show 0 < 7 by decide)).trans a0
  have h6 : cat 7 S T13 6 = .inr (3, [.ref (b2 0), .int 0, .int 0, .int (-1)]) := (cat_lo (by decide)).trans h6
  have a6 := (cat_lo (N := 7) (g := b12) (show 6 < 7 by decide)).trans a6
  have hBL := BL_push (b := b12) (T := T13) hBL (N := 7) (by decide +kernel) rfl hT15
  generalize cat 7 ad b12 = ad at G hBL h0 a0 h6 a6
  generalize cat 7 S T13 = S at G hBL h0 h6
  refine n_putF E G 0 2 h (fs := [.ref (b2 0), .ref (b7 0), .null, .null, .null, .null, .null, .null, .null, .null, .null, .null, .null, .null, .null, .null, .int 0, .int 0, .int 0]) (fs1 := [.ref (b2 0), .ref (b7 0), .ref (b12 0), .null, .null, .null, .null, .null, .null, .null, .null, .null, .null, .null, .null, .null, .int 0, .int 0, .int 0]) (by decide) a0 h0 rfl (fun w h => .tail _ (iA_23 h)) tyX11 tyX11_ok nmX11 (by decide) (.tail _ qA_654) ⟨rfl, rfl, rfl⟩ hin rfl rfl rfl (Nat.le_of_ble_eq_true rfl) rfl dX11_init_38 (fun H locs G => ?_)
  have hBL := BL_put (q := 0) (e := .inr (11, [.ref (b2 0), .ref (b7 0), .ref (b12 0), .null, .null, .null, .null, .null, .null, .null, .null, .null, .null, .null, .null, .null, .int 0, .int 0, .int 0])) hBL (by decide +kernel)
  have h6 := (va_up_ne S (.inr (11, [.ref (b2 0), .ref (b7 0), .ref (b12 0), .null, .null, .null, .null, .null, .null, .null, .null, .null, .null, .null, .null, .null, .int 0, .int 0, .int 0]) : va_E) (show 6 ≠ 0 by decide)).trans h6
  have h0 := va_up_self S 0 (.inr (11, [.ref (b2 0), .ref (b7 0), .ref (b12 0), .null, .null, .null, .null, .null, .null, .null, .null, .null, .null, .null, .null, .null, .int 0, .int 0, .int 0]) : va_E)
  generalize va_up S 0 (.inr (11, [.ref (b2 0), .ref (b7 0), .ref (b12 0), .null, .null, .null, .null, .null, .null, .null, .null, .null, .null, .null, .null, .null, .int 0, .int 0, .int 0])) = S at G hBL h0 h6
  refine lv_aload_n hx hb dX11_init_41 rfl (lv_at hl 0 rfl) ?_
  refine n_new E G hA (ci := 0) (fs := [.null]) (fun w h => .tail _ (iA_13 h)) tyX0 tyX0_ok (.tail _ qA_655) (.tail _ qA_656) (.tail _ qA_31) rfl (by decide) (Nat.le_of_ble_eq_true rfl) (Nat.le_of_ble_eq_true rfl) dX11_init_42 (fun q16 H G => ?_)
  refine lv_dup hx hb dX11_init_45 rfl ?_
  refine n_initN (N := 22) E G hA hxs nX.moved hml (n_X0 l D cI cJ cZ cMic cSrc cSt cAI cAJ) ⟨va_cnB (host := "AcousticCamera") 0 hts (gaC qA_0) rfl rfl rfl (hxs.2.2.2.2.2 _ (List.mem_of_getElem? (i := 3) rfl)) (hts _ (.tail _ qA_31)) (by decide +kernel) ⟨Nat.le_of_ble_eq_true rfl, Nat.le_of_ble_eq_true rfl⟩, rfl, hts _ (.tail _ qA_681)⟩ (cat_hi (Nat.le_refl _)) (cat_hi (Nat.le_refl _)) hl.1 (lv_room (Nat.le_of_ble_eq_true rfl)) dX11_init_46 ⟨Nat.le_of_ble_eq_true rfl, Nat.le_of_ble_eq_true rfl⟩ (fun b17 T18 H locs hb19 hT20 G => ?_)
  subst hb19
  rw [cat_cat, cat_cat] at G
  have G : cG D (cat 22 ad b17) 66 A s.heap H locs (cat 22 S T18) := G
  have h0 : cat 22 S T18 0 = .inr (11, [.ref (b2 0), .ref (b7 0), .ref (b12 0), .null, .null, .null, .null, .null, .null, .null, .null, .null, .null, .null, .null, .null, .int 0, .int 0, .int 0]) := (cat_lo (by decide)).trans h0
  have a0 := (cat_lo (N := 22) (g := b17) (show 0 < 22 by decide)).trans a0
  have h6 : cat 22 S T18 6 = .inr (3, [.ref (b2 0), .int 0, .int 0, .int (-1)]) := (cat_lo (by decide)).trans h6
  have a6 := (cat_lo (N := 22) (g := b17) (show 6 < 22 by decide)).trans a6
  have hBL := BL_push (b := b17) (T := T18) hBL (N := 22) (by decide +kernel) rfl hT20
  generalize cat 22 ad b17 = ad at G hBL h0 a0 h6 a6
  generalize cat 22 S T18 = S at G hBL h0 h6
  refine n_putF E G 0 3 h (fs := [.ref (b2 0), .ref (b7 0), .ref (b12 0), .null, .null, .null, .null, .null, .null, .null, .null, .null, .null, .null, .null, .null, .int 0, .int 0, .int 0]) (fs1 := [.ref (b2 0), .ref (b7 0), .ref (b12 0), .ref (b17 0), .null, .null, .null, .null, .null, .null, .null, .null, .null, .null, .null, .null, .int 0, .int 0, .int 0]) (by decide) a0 h0 rfl (fun w h => .tail _ (iA_23 h)) tyX11 tyX11_ok nmX11 (by decide) (.tail _ qA_657) ⟨rfl, rfl, rfl⟩ hin rfl rfl rfl (Nat.le_of_ble_eq_true rfl) rfl dX11_init_49 (fun H locs G => ?_)
  have hBL := BL_put (q := 0) (e := .inr (11, [.ref (b2 0), .ref (b7 0), .ref (b12 0), .ref (b17 0), .null, .null, .null, .null, .null, .null, .null, .null, .null, .null, .null, .null, .int 0, .int 0, .int 0])) hBL (by decide +kernel)
  have h6 := (va_up_ne S (.inr (11, [.ref (b2 0), .ref (b7 0), .ref (b12 0), .ref (b17 0), .null, .null, .null, .null, .null, .null, .null, .null, .null, .null, .null, .null, .int 0, .int 0, .int 0]) : va_E) (show 6 ≠ 0 by decide)).trans h6
  have h0 := va_up_self S 0 (.inr (11, [.ref (b2 0), .ref (b7 0), .ref (b12 0), .ref (b17 0), .null, .null, .null, .null, .null, .null, .null, .null, .null, .null, .null, .null, .int 0, .int 0, .int 0]) : va_E)
  generalize va_up S 0 (.inr (11, [.ref (b2 0), .ref (b7 0), .ref (b12 0), .ref (b17 0), .null, .null, .null, .null, .null, .null, .null, .null, .null, .null, .null, .null, .int 0, .int 0, .int 0])) = S at G hBL h0 h6
  refine lv_aload_n hx hb dX11_init_52 rfl (lv_at hl 0 rfl) ?_
  refine n_new E G hA (ci := 4) (fs := [.int 0, .null, .int 0, .int 0, .null, .null]) (fun w h => .tail _ (iA_21 h)) tyX4 tyX4_ok (.tail _ qA_658) (.tail _ qA_659) (.tail _ qA_426) rfl (by decide) (Nat.le_of_ble_eq_true rfl) (Nat.le_of_ble_eq_true rfl) dX11_init_53 (fun q21 H G => ?_)
  refine lv_dup hx hb dX11_init_56 rfl ?_
  refine n_initN (N := 66) E G hA hxs nX.moved hml (n_X4 l D cI cJ cZ cMic cSrc cSt cAI cAJ) ⟨va_cnB (host := "AcousticCamera") 0 hts (gaC qA_405) rfl rfl rfl (hxs.2.2.2.2.2 _ (List.mem_of_getElem? (i := 4) rfl)) (hts _ (.tail _ qA_426)) (by decide +kernel) ⟨Nat.le_of_ble_eq_true rfl, Nat.le_of_ble_eq_true rfl⟩, rfl, hts _ (.tail _ qA_682)⟩ (cat_hi (Nat.le_refl _)) (cat_hi (Nat.le_refl _)) hl.1 (lv_room (Nat.le_of_ble_eq_true rfl)) dX11_init_57 ⟨Nat.le_of_ble_eq_true rfl, Nat.le_of_ble_eq_true rfl⟩ (fun b22 T23 H locs hb24 hT25 G => ?_)
  subst hb24
  rw [cat_cat, cat_cat] at G
  have G : cG D (cat 66 ad b22) 154 A s.heap H locs (cat 66 S T23) := G
  have h0 : cat 66 S T23 0 = .inr (11, [.ref (b2 0), .ref (b7 0), .ref (b12 0), .ref (b17 0), .null, .null, .null, .null, .null, .null, .null, .null, .null, .null, .null, .null, .int 0, .int 0, .int 0]) := (cat_lo (by decide)).trans h0
  have a0 := (cat_lo (N := 66) (g := b22) (show 0 < 66 by decide)).trans a0
  have h6 : cat 66 S T23 6 = .inr (3, [.ref (b2 0), .int 0, .int 0, .int (-1)]) := (cat_lo (by decide)).trans h6
  have a6 := (cat_lo (N := 66) (g := b22) (show 6 < 66 by decide)).trans a6
  have hBL := BL_push (b := b22) (T := T23) hBL (N := 66) (by decide +kernel) rfl hT25
  generalize cat 66 ad b22 = ad at G hBL h0 a0 h6 a6
  generalize cat 66 S T23 = S at G hBL h0 h6
  refine n_putF E G 0 4 h (fs := [.ref (b2 0), .ref (b7 0), .ref (b12 0), .ref (b17 0), .null, .null, .null, .null, .null, .null, .null, .null, .null, .null, .null, .null, .int 0, .int 0, .int 0]) (fs1 := [.ref (b2 0), .ref (b7 0), .ref (b12 0), .ref (b17 0), .ref (b22 0), .null, .null, .null, .null, .null, .null, .null, .null, .null, .null, .null, .int 0, .int 0, .int 0]) (by decide) a0 h0 rfl (fun w h => .tail _ (iA_23 h)) tyX11 tyX11_ok nmX11 (by decide) (.tail _ qA_660) ⟨rfl, rfl, rfl⟩ hin rfl rfl rfl (Nat.le_of_ble_eq_true rfl) rfl dX11_init_60 (fun H locs G => ?_)
  have hBL := BL_put (q := 0) (e := .inr (11, [.ref (b2 0), .ref (b7 0), .ref (b12 0), .ref (b17 0), .ref (b22 0), .null, .null, .null, .null, .null, .null, .null, .null, .null, .null, .null, .int 0, .int 0, .int 0])) hBL (by decide +kernel)
  have h6 := (va_up_ne S (.inr (11, [.ref (b2 0), .ref (b7 0), .ref (b12 0), .ref (b17 0), .ref (b22 0), .null, .null, .null, .null, .null, .null, .null, .null, .null, .null, .null, .int 0, .int 0, .int 0]) : va_E) (show 6 ≠ 0 by decide)).trans h6
  have h0 := va_up_self S 0 (.inr (11, [.ref (b2 0), .ref (b7 0), .ref (b12 0), .ref (b17 0), .ref (b22 0), .null, .null, .null, .null, .null, .null, .null, .null, .null, .null, .null, .int 0, .int 0, .int 0]) : va_E)
  generalize va_up S 0 (.inr (11, [.ref (b2 0), .ref (b7 0), .ref (b12 0), .ref (b17 0), .ref (b22 0), .null, .null, .null, .null, .null, .null, .null, .null, .null, .null, .null, .int 0, .int 0, .int 0])) = S at G hBL h0 h6
  refine lv_aload_n hx hb dX11_init_63 rfl (lv_at hl 0 rfl) ?_
  refine n_new E G hA (ci := 4) (fs := [.int 0, .null, .int 0, .int 0, .null, .null]) (fun w h => .tail _ (iA_21 h)) tyX4 tyX4_ok (.tail _ qA_658) (.tail _ qA_659) (.tail _ qA_426) rfl (by decide) (Nat.le_of_ble_eq_true rfl) (Nat.le_of_ble_eq_true rfl) dX11_init_64 (fun q26 H G => ?_)
  refine lv_dup hx hb dX11_init_67 rfl ?_
  refine n_initN (N := 154) E G hA hxs nX.moved hml (n_X4 l D cI cJ cZ cMic cSrc cSt cAI cAJ) ⟨va_cnB (host := "AcousticCamera") 0 hts (gaC qA_405) rfl rfl rfl (hxs.2.2.2.2.2 _ (List.mem_of_getElem? (i := 4) rfl)) (hts _ (.tail _ qA_426)) (by decide +kernel) ⟨Nat.le_of_ble_eq_true rfl, Nat.le_of_ble_eq_true rfl⟩, rfl, hts _ (.tail _ qA_682)⟩ (cat_hi (Nat.le_refl _)) (cat_hi (Nat.le_refl _)) hl.1 (lv_room (Nat.le_of_ble_eq_true rfl)) dX11_init_68 ⟨Nat.le_of_ble_eq_true rfl, Nat.le_of_ble_eq_true rfl⟩ (fun b27 T28 H locs hb29 hT30 G => ?_)
  subst hb29
  rw [cat_cat, cat_cat] at G
  have G : cG D (cat 154 ad b27) 242 A s.heap H locs (cat 154 S T28) := G
  have h0 : cat 154 S T28 0 = .inr (11, [.ref (b2 0), .ref (b7 0), .ref (b12 0), .ref (b17 0), .ref (b22 0), .null, .null, .null, .null, .null, .null, .null, .null, .null, .null, .null, .int 0, .int 0, .int 0]) := (cat_lo (by decide)).trans h0
  have a0 := (cat_lo (N := 154) (g := b27) (show 0 < 154 by decide)).trans a0
  have h6 : cat 154 S T28 6 = .inr (3, [.ref (b2 0), .int 0, .int 0, .int (-1)]) := (cat_lo (by decide)).trans h6
  have a6 := (cat_lo (N := 154) (g := b27) (show 6 < 154 by decide)).trans a6
  have hBL := BL_push (b := b27) (T := T28) hBL (N := 154) (by decide +kernel) rfl hT30
  generalize cat 154 ad b27 = ad at G hBL h0 a0 h6 a6
  generalize cat 154 S T28 = S at G hBL h0 h6
  refine n_putF E G 0 5 h (fs := [.ref (b2 0), .ref (b7 0), .ref (b12 0), .ref (b17 0), .ref (b22 0), .null, .null, .null, .null, .null, .null, .null, .null, .null, .null, .null, .int 0, .int 0, .int 0]) (fs1 := [.ref (b2 0), .ref (b7 0), .ref (b12 0), .ref (b17 0), .ref (b22 0), .ref (b27 0), .null, .null, .null, .null, .null, .null, .null, .null, .null, .null, .int 0, .int 0, .int 0]) (by decide) a0 h0 rfl (fun w h => .tail _ (iA_23 h)) tyX11 tyX11_ok nmX11 (by decide) (.tail _ qA_661) ⟨rfl, rfl, rfl⟩ hin rfl rfl rfl (Nat.le_of_ble_eq_true rfl) rfl dX11_init_71 (fun H locs G => ?_)
  have hBL := BL_put (q := 0) (e := .inr (11, [.ref (b2 0), .ref (b7 0), .ref (b12 0), .ref (b17 0), .ref (b22 0), .ref (b27 0), .null, .null, .null, .null, .null, .null, .null, .null, .null, .null, .int 0, .int 0, .int 0])) hBL (by decide +kernel)
  have h6 := (va_up_ne S (.inr (11, [.ref (b2 0), .ref (b7 0), .ref (b12 0), .ref (b17 0), .ref (b22 0), .ref (b27 0), .null, .null, .null, .null, .null, .null, .null, .null, .null, .null, .int 0, .int 0, .int 0]) : va_E) (show 6 ≠ 0 by decide)).trans h6
  have h0 := va_up_self S 0 (.inr (11, [.ref (b2 0), .ref (b7 0), .ref (b12 0), .ref (b17 0), .ref (b22 0), .ref (b27 0), .null, .null, .null, .null, .null, .null, .null, .null, .null, .null, .int 0, .int 0, .int 0]) : va_E)
  generalize va_up S 0 (.inr (11, [.ref (b2 0), .ref (b7 0), .ref (b12 0), .ref (b17 0), .ref (b22 0), .ref (b27 0), .null, .null, .null, .null, .null, .null, .null, .null, .null, .null, .int 0, .int 0, .int 0])) = S at G hBL h0 h6
  refine lv_aload_n hx hb dX11_init_74 rfl (lv_at hl 0 rfl) ?_
  refine n_new E G hA (ci := 8) (fs := [.int 0, .int 0, .int 0, .null, .null, .null, .null, .null, .null, .null, .null, .null]) (fun w h => .tail _ (iA_16 h)) tyX8 tyX8_ok (.tail _ qA_662) (.tail _ qA_663) (.tail _ qA_47) rfl (by decide) (Nat.le_of_ble_eq_true rfl) (Nat.le_of_ble_eq_true rfl) dX11_init_75 (fun q31 H G => ?_)
  refine lv_dup hx hb dX11_init_78 rfl ?_
  refine n_initN (N := 242) E G hA hxs nX.moved hml (n_X8 l D cI cJ cZ cMic cSrc cSt cAI cAJ) ⟨va_cnB (host := "AcousticCamera") 0 hts (gaC qA_582) rfl rfl rfl (hxs.2.2.2.2.2 _ (List.mem_of_getElem? (i := 5) rfl)) (hts _ (.tail _ qA_47)) (by decide +kernel) ⟨Nat.le_of_ble_eq_true rfl, Nat.le_of_ble_eq_true rfl⟩, rfl, hts _ (.tail _ qA_683)⟩ (cat_hi (Nat.le_refl _)) (cat_hi (Nat.le_refl _)) hl.1 (lv_room (Nat.le_of_ble_eq_true rfl)) dX11_init_79 ⟨Nat.le_of_ble_eq_true rfl, Nat.le_of_ble_eq_true rfl⟩ (fun b32 T33 H locs hb34 hT35 G => ?_)
  subst hb34
  rw [cat_cat, cat_cat] at G
  have G : cG D (cat 242 ad b32) 336 A s.heap H locs (cat 242 S T33) := G
  have h0 : cat 242 S T33 0 = .inr (11, [.ref (b2 0), .ref (b7 0), .ref (b12 0), .ref (b17 0), .ref (b22 0), .ref (b27 0), .null, .null, .null, .null, .null, .null, .null, .null, .null, .null, .int 0, .int 0, .int 0]) := (cat_lo (by decide)).trans h0
  have a0 := (cat_lo (N := 242) (g := b32) (show 0 < 242 by decide)).trans a0
  have h6 : cat 242 S T33 6 = .inr (3, [.ref (b2 0), .int 0, .int 0, .int (-1)]) := (cat_lo (by decide)).trans h6
  have a6 := (cat_lo (N := 242) (g := b32) (show 6 < 242 by decide)).trans a6
  have hBL := BL_push (b := b32) (T := T33) hBL (N := 242) (by decide +kernel) rfl hT35
  generalize cat 242 ad b32 = ad at G hBL h0 a0 h6 a6
  generalize cat 242 S T33 = S at G hBL h0 h6
  refine n_putF E G 0 6 h (fs := [.ref (b2 0), .ref (b7 0), .ref (b12 0), .ref (b17 0), .ref (b22 0), .ref (b27 0), .null, .null, .null, .null, .null, .null, .null, .null, .null, .null, .int 0, .int 0, .int 0]) (fs1 := [.ref (b2 0), .ref (b7 0), .ref (b12 0), .ref (b17 0), .ref (b22 0), .ref (b27 0), .ref (b32 0), .null, .null, .null, .null, .null, .null, .null, .null, .null, .int 0, .int 0, .int 0]) (by decide) a0 h0 rfl (fun w h => .tail _ (iA_23 h)) tyX11 tyX11_ok nmX11 (by decide) (.tail _ qA_664) ⟨rfl, rfl, rfl⟩ hin rfl rfl rfl (Nat.le_of_ble_eq_true rfl) rfl dX11_init_82 (fun H locs G => ?_)
  have hBL := BL_put (q := 0) (e := .inr (11, [.ref (b2 0), .ref (b7 0), .ref (b12 0), .ref (b17 0), .ref (b22 0), .ref (b27 0), .ref (b32 0), .null, .null, .null, .null, .null, .null, .null, .null, .null, .int 0, .int 0, .int 0])) hBL (by decide +kernel)
  have h6 := (va_up_ne S (.inr (11, [.ref (b2 0), .ref (b7 0), .ref (b12 0), .ref (b17 0), .ref (b22 0), .ref (b27 0), .ref (b32 0), .null, .null, .null, .null, .null, .null, .null, .null, .null, .int 0, .int 0, .int 0]) : va_E) (show 6 ≠ 0 by decide)).trans h6
  have h0 := va_up_self S 0 (.inr (11, [.ref (b2 0), .ref (b7 0), .ref (b12 0), .ref (b17 0), .ref (b22 0), .ref (b27 0), .ref (b32 0), .null, .null, .null, .null, .null, .null, .null, .null, .null, .int 0, .int 0, .int 0]) : va_E)
  generalize va_up S 0 (.inr (11, [.ref (b2 0), .ref (b7 0), .ref (b12 0), .ref (b17 0), .ref (b22 0), .ref (b27 0), .ref (b32 0), .null, .null, .null, .null, .null, .null, .null, .null, .null, .int 0, .int 0, .int 0])) = S at G hBL h0 h6
  refine lv_aload_n hx hb dX11_init_85 rfl (lv_at hl 0 rfl) ?_
  refine n_new E G hA (ci := 8) (fs := [.int 0, .int 0, .int 0, .null, .null, .null, .null, .null, .null, .null, .null, .null]) (fun w h => .tail _ (iA_16 h)) tyX8 tyX8_ok (.tail _ qA_662) (.tail _ qA_663) (.tail _ qA_47) rfl (by decide) (Nat.le_of_ble_eq_true rfl) (Nat.le_of_ble_eq_true rfl) dX11_init_86 (fun q36 H G => ?_)
  refine lv_dup hx hb dX11_init_89 rfl ?_
  refine n_initN (N := 336) E G hA hxs nX.moved hml (n_X8 l D cI cJ cZ cMic cSrc cSt cAI cAJ) ⟨va_cnB (host := "AcousticCamera") 0 hts (gaC qA_582) rfl rfl rfl (hxs.2.2.2.2.2 _ (List.mem_of_getElem? (i := 5) rfl)) (hts _ (.tail _ qA_47)) (by decide +kernel) ⟨Nat.le_of_ble_eq_true rfl, Nat.le_of_ble_eq_true rfl⟩, rfl, hts _ (.tail _ qA_683)⟩ (cat_hi (Nat.le_refl _)) (cat_hi (Nat.le_refl _)) hl.1 (lv_room (Nat.le_of_ble_eq_true rfl)) dX11_init_90 ⟨Nat.le_of_ble_eq_true rfl, Nat.le_of_ble_eq_true rfl⟩ (fun b37 T38 H locs hb39 hT40 G => ?_)
  subst hb39
  rw [cat_cat, cat_cat] at G
  have G : cG D (cat 336 ad b37) 430 A s.heap H locs (cat 336 S T38) := G
  have h0 : cat 336 S T38 0 = .inr (11, [.ref (b2 0), .ref (b7 0), .ref (b12 0), .ref (b17 0), .ref (b22 0), .ref (b27 0), .ref (b32 0), .null, .null, .null, .null, .null, .null, .null, .null, .null, .int 0, .int 0, .int 0]) := (cat_lo (by decide)).trans h0
  have a0 := (cat_lo (N := 336) (g := b37) (show 0 < 336 by decide)).trans a0
  have h6 : cat 336 S T38 6 = .inr (3, [.ref (b2 0), .int 0, .int 0, .int (-1)]) := (cat_lo (by decide)).trans h6
  have a6 := (cat_lo (N := 336) (g := b37) (show 6 < 336 by decide)).trans a6
  have hBL := BL_push (b := b37) (T := T38) hBL (N := 336) (by decide +kernel) rfl hT40
  generalize cat 336 ad b37 = ad at G hBL h0 a0 h6 a6
  generalize cat 336 S T38 = S at G hBL h0 h6
  refine n_putF E G 0 7 h (fs := [.ref (b2 0), .ref (b7 0), .ref (b12 0), .ref (b17 0), .ref (b22 0), .ref (b27 0), .ref (b32 0), .null, .null, .null, .null, .null, .null, .null, .null, .null, .int 0, .int 0, .int 0]) (fs1 := [.ref (b2 0), .ref (b7 0), .ref (b12 0), .ref (b17 0), .ref (b22 0), .ref (b27 0), .ref (b32 0), .ref (b37 0), .null, .null, .null, .null, .null, .null, .null, .null, .int 0, .int 0, .int 0]) (by decide) a0 h0 rfl (fun w h => .tail _ (iA_23 h)) tyX11 tyX11_ok nmX11 (by decide) (.tail _ qA_665) ⟨rfl, rfl, rfl⟩ hin rfl rfl rfl (Nat.le_of_ble_eq_true rfl) rfl dX11_init_93 (fun H locs G => ?_)
  have hBL := BL_put (q := 0) (e := .inr (11, [.ref (b2 0), .ref (b7 0), .ref (b12 0), .ref (b17 0), .ref (b22 0), .ref (b27 0), .ref (b32 0), .ref (b37 0), .null, .null, .null, .null, .null, .null, .null, .null, .int 0, .int 0, .int 0])) hBL (by decide +kernel)
  have h6 := (va_up_ne S (.inr (11, [.ref (b2 0), .ref (b7 0), .ref (b12 0), .ref (b17 0), .ref (b22 0), .ref (b27 0), .ref (b32 0), .ref (b37 0), .null, .null, .null, .null, .null, .null, .null, .null, .int 0, .int 0, .int 0]) : va_E) (show 6 ≠ 0 by decide)).trans h6
  have h0 := va_up_self S 0 (.inr (11, [.ref (b2 0), .ref (b7 0), .ref (b12 0), .ref (b17 0), .ref (b22 0), .ref (b27 0), .ref (b32 0), .ref (b37 0), .null, .null, .null, .null, .null, .null, .null, .null, .int 0, .int 0, .int 0]) : va_E)
  generalize va_up S 0 (.inr (11, [.ref (b2 0), .ref (b7 0), .ref (b12 0), .ref (b17 0), .ref (b22 0), .ref (b27 0), .ref (b32 0), .ref (b37 0), .null, .null, .null, .null, .null, .null, .null, .null, .int 0, .int 0, .int 0])) = S at G hBL h0 h6
  refine lv_aload_n hx hb dX11_init_96 rfl (lv_at hl 0 rfl) ?_
  refine lv_bipush (v := 6) hx hb dX11_init_97 (by decide) ?_
  refine n_newq E G hA 5 (C := "AcousticCamera$State") (K := 6) (.tail _ qA_662) hxs.2.2.1 rfl rfl rfl (by decide) (Nat.le_of_ble_eq_true rfl) (Nat.le_of_ble_eq_true rfl) dX11_init_99 (fun q41 H G => ?_)
  have h0 : cat 430 S (fun _ => .inl (cSt, 6, .inr (.inr (.inr (.inr (fun _ => none)))))) 0 = .inr (11, [.ref (b2 0), .ref (b7 0), .ref (b12 0), .ref (b17 0), .ref (b22 0), .ref (b27 0), .ref (b32 0), .ref (b37 0), .null, .null, .null, .null, .null, .null, .null, .null, .int 0, .int 0, .int 0]) := (cat_lo (by decide)).trans h0
  have a0 := (cat_lo (N := 430) (g := (fun _ => q41)) (show 0 < 430 by decide)).trans a0
  have h6 : cat 430 S (fun _ => .inl (cSt, 6, .inr (.inr (.inr (.inr (fun _ => none)))))) 6 = .inr (3, [.ref (b2 0), .int 0, .int 0, .int (-1)]) := (cat_lo (by decide)).trans h6
  have a6 := (cat_lo (N := 430) (g := (fun _ => q41)) (show 6 < 430 by decide)).trans a6
  have hBL := BL_skip (g1 := (fun _ => q41)) (g2 := (fun _ => .inl (cSt, 6, .inr (.inr (.inr (.inr (fun _ => none))))))) hBL (N := 430) (by decide +kernel)
  have h430 : cat 430 S (fun _ => .inl (cSt, 6, .inr (.inr (.inr (.inr (fun _ => none)))))) 430 = .inl (cSt, 6, .inr (.inr (.inr (.inr (fun _ => none))))) := cat_hi (Nat.le_refl _)
  have a430 : cat 430 ad (fun _ => q41) 430 = q41 := cat_hi (Nat.le_refl _)
  generalize cat 430 ad (fun _ => q41) = ad at G hBL h0 a0 h6 a6 h430 a430
  generalize cat 430 S (fun _ => .inl (cSt, 6, .inr (.inr (.inr (.inr (fun _ => none)))))) = S at G hBL h0 h6 h430
  refine n_putF E G 0 8 h (fs := [.ref (b2 0), .ref (b7 0), .ref (b12 0), .ref (b17 0), .ref (b22 0), .ref (b27 0), .ref (b32 0), .ref (b37 0), .null, .null, .null, .null, .null, .null, .null, .null, .int 0, .int 0, .int 0]) (fs1 := [.ref (b2 0), .ref (b7 0), .ref (b12 0), .ref (b17 0), .ref (b22 0), .ref (b27 0), .ref (b32 0), .ref (b37 0), .ref q41, .null, .null, .null, .null, .null, .null, .null, .int 0, .int 0, .int 0]) (by decide) a0 h0 rfl (fun w h => .tail _ (iA_23 h)) tyX11 tyX11_ok nmX11 (by decide) (.tail _ qA_666) ⟨rfl, rfl, rfl⟩ hin rfl rfl rfl (Nat.le_of_ble_eq_true rfl) rfl dX11_init_102 (fun H locs G => ?_)
  have hBL := BL_put (q := 0) (e := .inr (11, [.ref (b2 0), .ref (b7 0), .ref (b12 0), .ref (b17 0), .ref (b22 0), .ref (b27 0), .ref (b32 0), .ref (b37 0), .ref q41, .null, .null, .null, .null, .null, .null, .null, .int 0, .int 0, .int 0])) hBL (by decide +kernel)
  have h6 := (va_up_ne S (.inr (11, [.ref (b2 0), .ref (b7 0), .ref (b12 0), .ref (b17 0), .ref (b22 0), .ref (b27 0), .ref (b32 0), .ref (b37 0), .ref q41, .null, .null, .null, .null, .null, .null, .null, .int 0, .int 0, .int 0]) : va_E) (show 6 ≠ 0 by decide)).trans h6
  have h430 := (va_up_ne S (.inr (11, [.ref (b2 0), .ref (b7 0), .ref (b12 0), .ref (b17 0), .ref (b22 0), .ref (b27 0), .ref (b32 0), .ref (b37 0), .ref q41, .null, .null, .null, .null, .null, .null, .null, .int 0, .int 0, .int 0]) : va_E) (show 430 ≠ 0 by decide)).trans h430
  have h0 := va_up_self S 0 (.inr (11, [.ref (b2 0), .ref (b7 0), .ref (b12 0), .ref (b17 0), .ref (b22 0), .ref (b27 0), .ref (b32 0), .ref (b37 0), .ref q41, .null, .null, .null, .null, .null, .null, .null, .int 0, .int 0, .int 0]) : va_E)
  generalize va_up S 0 (.inr (11, [.ref (b2 0), .ref (b7 0), .ref (b12 0), .ref (b17 0), .ref (b22 0), .ref (b27 0), .ref (b32 0), .ref (b37 0), .ref q41, .null, .null, .null, .null, .null, .null, .null, .int 0, .int 0, .int 0])) = S at G hBL h0 h6 h430
  refine lv_aload_n hx hb dX11_init_105 rfl (lv_at hl 0 rfl) ?_
  refine lv_iconst (v := 2) hx hb dX11_init_106 (by decide) ?_
  refine n_newq E G hA 5 (C := "AcousticCamera$State") (K := 2) (.tail _ qA_662) hxs.2.2.1 rfl rfl rfl (by decide) (Nat.le_of_ble_eq_true rfl) (Nat.le_of_ble_eq_true rfl) dX11_init_107 (fun q42 H G => ?_)
  have h0 : cat 431 S (fun _ => .inl (cSt, 2, .inr (.inr (.inr (.inr (fun _ => none)))))) 0 = .inr (11, [.ref (b2 0), .ref (b7 0), .ref (b12 0), .ref (b17 0), .ref (b22 0), .ref (b27 0), .ref (b32 0), .ref (b37 0), .ref q41, .null, .null, .null, .null, .null, .null, .null, .int 0, .int 0, .int 0]) := (cat_lo (by decide)).trans h0
  have a0 := (cat_lo (N := 431) (g := (fun _ => q42)) (show 0 < 431 by decide)).trans a0
  have h6 : cat 431 S (fun _ => .inl (cSt, 2, .inr (.inr (.inr (.inr (fun _ => none)))))) 6 = .inr (3, [.ref (b2 0), .int 0, .int 0, .int (-1)]) := (cat_lo (by decide)).trans h6
  have a6 := (cat_lo (N := 431) (g := (fun _ => q42)) (show 6 < 431 by decide)).trans a6
  have h430 : cat 431 S (fun _ => .inl (cSt, 2, .inr (.inr (.inr (.inr (fun _ => none)))))) 430 = .inl (cSt, 6, .inr (.inr (.inr (.inr (fun _ => none))))) := (cat_lo (by decide)).trans h430
  have a430 := (cat_lo (N := 431) (g := (fun _ => q42)) (show 430 < 431 by decide)).trans a430
  have hBL := BL_skip (g1 := (fun _ => q42)) (g2 := (fun _ => .inl (cSt, 2, .inr (.inr (.inr (.inr (fun _ => none))))))) hBL (N := 431) (by decide +kernel)
  have h431 : cat 431 S (fun _ => .inl (cSt, 2, .inr (.inr (.inr (.inr (fun _ => none)))))) 431 = .inl (cSt, 2, .inr (.inr (.inr (.inr (fun _ => none))))) := cat_hi (Nat.le_refl _)
  have a431 : cat 431 ad (fun _ => q42) 431 = q42 := cat_hi (Nat.le_refl _)
  generalize cat 431 ad (fun _ => q42) = ad at G hBL h0 a0 h6 a6 h430 a430 h431 a431
  generalize cat 431 S (fun _ => .inl (cSt, 2, .inr (.inr (.inr (.inr (fun _ => none)))))) = S at G hBL h0 h6 h430 h431
  refine n_putF E G 0 9 h (fs := [.ref (b2 0), .ref (b7 0), .ref (b12 0), .ref (b17 0), .ref (b22 0), .ref (b27 0), .ref (b32 0), .ref (b37 0), .ref q41, .null, .null, .null, .null, .null, .null, .null, .int 0, .int 0, .int 0]) (fs1 := [.ref (b2 0), .ref (b7 0), .ref (b12 0), .ref (b17 0), .ref (b22 0), .ref (b27 0), .ref (b32 0), .ref (b37 0), .ref q41, .ref q42, .null, .null, .null, .null, .null, .null, .int 0, .int 0, .int 0]) (by decide) a0 h0 rfl (fun w h => .tail _ (iA_23 h)) tyX11 tyX11_ok nmX11 (by decide) (.tail _ qA_667) ⟨rfl, rfl, rfl⟩ hin rfl rfl rfl (Nat.le_of_ble_eq_true rfl) rfl dX11_init_110 (fun H locs G => ?_)
  have hBL := BL_put (q := 0) (e := .inr (11, [.ref (b2 0), .ref (b7 0), .ref (b12 0), .ref (b17 0), .ref (b22 0), .ref (b27 0), .ref (b32 0), .ref (b37 0), .ref q41, .ref q42, .null, .null, .null, .null, .null, .null, .int 0, .int 0, .int 0])) hBL (by decide +kernel)
  have h6 := (va_up_ne S (.inr (11, [.ref (b2 0), .ref (b7 0), .ref (b12 0), .ref (b17 0), .ref (b22 0), .ref (b27 0), .ref (b32 0), .ref (b37 0), .ref q41, .ref q42, .null, .null, .null, .null, .null, .null, .int 0, .int 0, .int 0]) : va_E) (show 6 ≠ 0 by decide)).trans h6
  have h430 := (va_up_ne S (.inr (11, [.ref (b2 0), .ref (b7 0), .ref (b12 0), .ref (b17 0), .ref (b22 0), .ref (b27 0), .ref (b32 0), .ref (b37 0), .ref q41, .ref q42, .null, .null, .null, .null, .null, .null, .int 0, .int 0, .int 0]) : va_E) (show 430 ≠ 0 by decide)).trans h430
  have h431 := (va_up_ne S (.inr (11, [.ref (b2 0), .ref (b7 0), .ref (b12 0), .ref (b17 0), .ref (b22 0), .ref (b27 0), .ref (b32 0), .ref (b37 0), .ref q41, .ref q42, .null, .null, .null, .null, .null, .null, .int 0, .int 0, .int 0]) : va_E) (show 431 ≠ 0 by decide)).trans h431
  have h0 := va_up_self S 0 (.inr (11, [.ref (b2 0), .ref (b7 0), .ref (b12 0), .ref (b17 0), .ref (b22 0), .ref (b27 0), .ref (b32 0), .ref (b37 0), .ref q41, .ref q42, .null, .null, .null, .null, .null, .null, .int 0, .int 0, .int 0]) : va_E)
  generalize va_up S 0 (.inr (11, [.ref (b2 0), .ref (b7 0), .ref (b12 0), .ref (b17 0), .ref (b22 0), .ref (b27 0), .ref (b32 0), .ref (b37 0), .ref q41, .ref q42, .null, .null, .null, .null, .null, .null, .int 0, .int 0, .int 0])) = S at G hBL h0 h6 h430 h431
  refine lv_aload_n hx hb dX11_init_113 rfl (lv_at hl 0 rfl) ?_
  refine lv_iconst (v := 2) hx hb dX11_init_114 (by decide) ?_
  refine n_newz E G hA 2 (K := 2) (.tail _ qA_584) rfl rfl (by decide) (Nat.le_of_ble_eq_true rfl) (Nat.le_of_ble_eq_true rfl) dX11_init_115 (fun q43 H G => ?_)
  have h0 : cat 432 S (fun _ => .inl (cZ, 2, .inl (fun _ => 0))) 0 = .inr (11, [.ref (b2 0), .ref (b7 0), .ref (b12 0), .ref (b17 0), .ref (b22 0), .ref (b27 0), .ref (b32 0), .ref (b37 0), .ref q41, .ref q42, .null, .null, .null, .null, .null, .null, .int 0, .int 0, .int 0]) := (cat_lo (by decide)).trans h0
  have a0 := (cat_lo (N := 432) (g := (fun _ => q43)) (show 0 < 432 by decide)).trans a0
  have h6 : cat 432 S (fun _ => .inl (cZ, 2, .inl (fun _ => 0))) 6 = .inr (3, [.ref (b2 0), .int 0, .int 0, .int (-1)]) := (cat_lo (by decide)).trans h6
  have a6 := (cat_lo (N := 432) (g := (fun _ => q43)) (show 6 < 432 by decide)).trans a6
  have h430 : cat 432 S (fun _ => .inl (cZ, 2, .inl (fun _ => 0))) 430 = .inl (cSt, 6, .inr (.inr (.inr (.inr (fun _ => none))))) := (cat_lo (by decide)).trans h430
  have a430 := (cat_lo (N := 432) (g := (fun _ => q43)) (show 430 < 432 by decide)).trans a430
  have h431 : cat 432 S (fun _ => .inl (cZ, 2, .inl (fun _ => 0))) 431 = .inl (cSt, 2, .inr (.inr (.inr (.inr (fun _ => none))))) := (cat_lo (by decide)).trans h431
  have a431 := (cat_lo (N := 432) (g := (fun _ => q43)) (show 431 < 432 by decide)).trans a431
  have hBL := BL_push (b := (fun _ => q43)) (T := (fun _ => .inl (cZ, 2, .inl (fun _ => 0)))) hBL (N := 432) (by decide +kernel) rfl (fun _ _ => rfl)
  generalize cat 432 ad (fun _ => q43) = ad at G hBL h0 a0 h6 a6 h430 a430 h431 a431
  generalize cat 432 S (fun _ => .inl (cZ, 2, .inl (fun _ => 0))) = S at G hBL h0 h6 h430 h431
  refine n_putF E G 0 10 h (fs := [.ref (b2 0), .ref (b7 0), .ref (b12 0), .ref (b17 0), .ref (b22 0), .ref (b27 0), .ref (b32 0), .ref (b37 0), .ref q41, .ref q42, .null, .null, .null, .null, .null, .null, .int 0, .int 0, .int 0]) (fs1 := [.ref (b2 0), .ref (b7 0), .ref (b12 0), .ref (b17 0), .ref (b22 0), .ref (b27 0), .ref (b32 0), .ref (b37 0), .ref q41, .ref q42, .ref q43, .null, .null, .null, .null, .null, .int 0, .int 0, .int 0]) (by decide) a0 h0 rfl (fun w h => .tail _ (iA_23 h)) tyX11 tyX11_ok nmX11 (by decide) (.tail _ qA_668) ⟨rfl, rfl, rfl⟩ hin rfl rfl rfl (Nat.le_of_ble_eq_true rfl) rfl dX11_init_117 (fun H locs G => ?_)
  have hBL := BL_put (q := 0) (e := .inr (11, [.ref (b2 0), .ref (b7 0), .ref (b12 0), .ref (b17 0), .ref (b22 0), .ref (b27 0), .ref (b32 0), .ref (b37 0), .ref q41, .ref q42, .ref q43, .null, .null, .null, .null, .null, .int 0, .int 0, .int 0])) hBL (by decide +kernel)
  have h6 := (va_up_ne S (.inr (11, [.ref (b2 0), .ref (b7 0), .ref (b12 0), .ref (b17 0), .ref (b22 0), .ref (b27 0), .ref (b32 0), .ref (b37 0), .ref q41, .ref q42, .ref q43, .null, .null, .null, .null, .null, .int 0, .int 0, .int 0]) : va_E) (show 6 ≠ 0 by decide)).trans h6
  have h430 := (va_up_ne S (.inr (11, [.ref (b2 0), .ref (b7 0), .ref (b12 0), .ref (b17 0), .ref (b22 0), .ref (b27 0), .ref (b32 0), .ref (b37 0), .ref q41, .ref q42, .ref q43, .null, .null, .null, .null, .null, .int 0, .int 0, .int 0]) : va_E) (show 430 ≠ 0 by decide)).trans h430
  have h431 := (va_up_ne S (.inr (11, [.ref (b2 0), .ref (b7 0), .ref (b12 0), .ref (b17 0), .ref (b22 0), .ref (b27 0), .ref (b32 0), .ref (b37 0), .ref q41, .ref q42, .ref q43, .null, .null, .null, .null, .null, .int 0, .int 0, .int 0]) : va_E) (show 431 ≠ 0 by decide)).trans h431
  have h0 := va_up_self S 0 (.inr (11, [.ref (b2 0), .ref (b7 0), .ref (b12 0), .ref (b17 0), .ref (b22 0), .ref (b27 0), .ref (b32 0), .ref (b37 0), .ref q41, .ref q42, .ref q43, .null, .null, .null, .null, .null, .int 0, .int 0, .int 0]) : va_E)
  generalize va_up S 0 (.inr (11, [.ref (b2 0), .ref (b7 0), .ref (b12 0), .ref (b17 0), .ref (b22 0), .ref (b27 0), .ref (b32 0), .ref (b37 0), .ref q41, .ref q42, .ref q43, .null, .null, .null, .null, .null, .int 0, .int 0, .int 0])) = S at G hBL h0 h6 h430 h431
  refine lv_aload_n hx hb dX11_init_120 rfl (lv_at hl 0 rfl) ?_
  refine lv_bipush (v := 12) hx hb dX11_init_121 (by decide) ?_
  refine n_newi E G hA 0 (K := 12) (.tail _ qA_157) rfl rfl (by decide) (Nat.le_of_ble_eq_true rfl) (Nat.le_of_ble_eq_true rfl) dX11_init_123 (fun q44 H G => ?_)
  have h0 : cat 433 S (fun _ => .inl (cI, 12, .inl (fun _ => 0))) 0 = .inr (11, [.ref (b2 0), .ref (b7 0), .ref (b12 0), .ref (b17 0), .ref (b22 0), .ref (b27 0), .ref (b32 0), .ref (b37 0), .ref q41, .ref q42, .ref q43, .null, .null, .null, .null, .null, .int 0, .int 0, .int 0]) := (cat_lo (by decide)).trans h0
  have a0 := (cat_lo (N := 433) (g := (fun _ => q44)) (show 0 < 433 by decide)).trans a0
  have h6 : cat 433 S (fun _ => .inl (cI, 12, .inl (fun _ => 0))) 6 = .inr (3, [.ref (b2 0), .int 0, .int 0, .int (-1)]) := (cat_lo (by decide)).trans h6
  have a6 := (cat_lo (N := 433) (g := (fun _ => q44)) (show 6 < 433 by decide)).trans a6
  have h430 : cat 433 S (fun _ => .inl (cI, 12, .inl (fun _ => 0))) 430 = .inl (cSt, 6, .inr (.inr (.inr (.inr (fun _ => none))))) := (cat_lo (by decide)).trans h430
  have a430 := (cat_lo (N := 433) (g := (fun _ => q44)) (show 430 < 433 by decide)).trans a430
  have h431 : cat 433 S (fun _ => .inl (cI, 12, .inl (fun _ => 0))) 431 = .inl (cSt, 2, .inr (.inr (.inr (.inr (fun _ => none))))) := (cat_lo (by decide)).trans h431
  have a431 := (cat_lo (N := 433) (g := (fun _ => q44)) (show 431 < 433 by decide)).trans a431
  have hBL := BL_push (b := (fun _ => q44)) (T := (fun _ => .inl (cI, 12, .inl (fun _ => 0)))) hBL (N := 433) (by decide +kernel) rfl (fun _ _ => rfl)
  generalize cat 433 ad (fun _ => q44) = ad at G hBL h0 a0 h6 a6 h430 a430 h431 a431
  generalize cat 433 S (fun _ => .inl (cI, 12, .inl (fun _ => 0))) = S at G hBL h0 h6 h430 h431
  refine n_putF E G 0 11 h (fs := [.ref (b2 0), .ref (b7 0), .ref (b12 0), .ref (b17 0), .ref (b22 0), .ref (b27 0), .ref (b32 0), .ref (b37 0), .ref q41, .ref q42, .ref q43, .null, .null, .null, .null, .null, .int 0, .int 0, .int 0]) (fs1 := [.ref (b2 0), .ref (b7 0), .ref (b12 0), .ref (b17 0), .ref (b22 0), .ref (b27 0), .ref (b32 0), .ref (b37 0), .ref q41, .ref q42, .ref q43, .ref q44, .null, .null, .null, .null, .int 0, .int 0, .int 0]) (by decide) a0 h0 rfl (fun w h => .tail _ (iA_23 h)) tyX11 tyX11_ok nmX11 (by decide) (.tail _ qA_669) ⟨rfl, rfl, rfl⟩ hin rfl rfl rfl (Nat.le_of_ble_eq_true rfl) rfl dX11_init_125 (fun H locs G => ?_)
  have hBL := BL_put (q := 0) (e := .inr (11, [.ref (b2 0), .ref (b7 0), .ref (b12 0), .ref (b17 0), .ref (b22 0), .ref (b27 0), .ref (b32 0), .ref (b37 0), .ref q41, .ref q42, .ref q43, .ref q44, .null, .null, .null, .null, .int 0, .int 0, .int 0])) hBL (by decide +kernel)
  have h6 := (va_up_ne S (.inr (11, [.ref (b2 0), .ref (b7 0), .ref (b12 0), .ref (b17 0), .ref (b22 0), .ref (b27 0), .ref (b32 0), .ref (b37 0), .ref q41, .ref q42, .ref q43, .ref q44, .null, .null, .null, .null, .int 0, .int 0, .int 0]) : va_E) (show 6 ≠ 0 by decide)).trans h6
  have h430 := (va_up_ne S (.inr (11, [.ref (b2 0), .ref (b7 0), .ref (b12 0), .ref (b17 0), .ref (b22 0), .ref (b27 0), .ref (b32 0), .ref (b37 0), .ref q41, .ref q42, .ref q43, .ref q44, .null, .null, .null, .null, .int 0, .int 0, .int 0]) : va_E) (show 430 ≠ 0 by decide)).trans h430
  have h431 := (va_up_ne S (.inr (11, [.ref (b2 0), .ref (b7 0), .ref (b12 0), .ref (b17 0), .ref (b22 0), .ref (b27 0), .ref (b32 0), .ref (b37 0), .ref q41, .ref q42, .ref q43, .ref q44, .null, .null, .null, .null, .int 0, .int 0, .int 0]) : va_E) (show 431 ≠ 0 by decide)).trans h431
  have h0 := va_up_self S 0 (.inr (11, [.ref (b2 0), .ref (b7 0), .ref (b12 0), .ref (b17 0), .ref (b22 0), .ref (b27 0), .ref (b32 0), .ref (b37 0), .ref q41, .ref q42, .ref q43, .ref q44, .null, .null, .null, .null, .int 0, .int 0, .int 0]) : va_E)
  generalize va_up S 0 (.inr (11, [.ref (b2 0), .ref (b7 0), .ref (b12 0), .ref (b17 0), .ref (b22 0), .ref (b27 0), .ref (b32 0), .ref (b37 0), .ref q41, .ref q42, .ref q43, .ref q44, .null, .null, .null, .null, .int 0, .int 0, .int 0])) = S at G hBL h0 h6 h430 h431
  refine lv_aload_n hx hb dX11_init_128 rfl (lv_at hl 0 rfl) ?_
  refine n_new E G hA (ci := 10) (fs := [.int 0, .null, .int 0]) (fun w h => .tail _ (iA_12 h)) tyX10 tyX10_ok (.tail _ qA_670) (.tail _ qA_5) (.tail _ qA_6) rfl (by decide) (Nat.le_of_ble_eq_true rfl) (Nat.le_of_ble_eq_true rfl) dX11_init_129 (fun q45 H G => ?_)
  refine lv_dup hx hb dX11_init_132 rfl ?_
  refine lv_bipush (v := 12) hx hb dX11_init_133 (by decide) ?_
  refine n_initA (As := [.int 12]) (rest := [.ref q45, .ref h]) (N := 434) E G hA hxs nX.moved hml (n_X10_12 l D cI cJ cZ cMic cSrc cSt cAI cAJ) (cwI 1 hts (gaC qA_10) rfl rfl rfl (hts _ (.tail _ qA_6)) (hts _ (.tail _ qA_684)) (hts _ (.tail _ qA_9)) rfl (by decide +kernel) ⟨Nat.le_of_ble_eq_true rfl, Nat.le_of_ble_eq_true rfl⟩) (cat_hi (Nat.le_refl _)) (cat_hi (Nat.le_refl _)) rfl hl.1 rfl (lv_room (Nat.le_of_ble_eq_true rfl)) dX11_init_135 ⟨Nat.le_of_ble_eq_true rfl, Nat.le_of_ble_eq_true rfl⟩ (fun b46 T47 H locs hb48 hT49 G => ?_)
  subst hb48
  rw [cat_cat, cat_cat] at G
  have G : cG D (cat 434 ad b46) 477 A s.heap H locs (cat 434 S T47) := G
  have h0 : cat 434 S T47 0 = .inr (11, [.ref (b2 0), .ref (b7 0), .ref (b12 0), .ref (b17 0), .ref (b22 0), .ref (b27 0), .ref (b32 0), .ref (b37 0), .ref q41, .ref q42, .ref q43, .ref q44, .null, .null, .null, .null, .int 0, .int 0, .int 0]) := (cat_lo (by decide)).trans h0
  have a0 := (cat_lo (N := 434) (g := b46) (show 0 < 434 by decide)).trans a0
  have h6 : cat 434 S T47 6 = .inr (3, [.ref (b2 0), .int 0, .int 0, .int (-1)]) := (cat_lo (by decide)).trans h6
  have a6 := (cat_lo (N := 434) (g := b46) (show 6 < 434 by decide)).trans a6
  have h430 : cat 434 S T47 430 = .inl (cSt, 6, .inr (.inr (.inr (.inr (fun _ => none))))) := (cat_lo (by decide)).trans h430
  have a430 := (cat_lo (N := 434) (g := b46) (show 430 < 434 by decide)).trans a430
  have h431 : cat 434 S T47 431 = .inl (cSt, 2, .inr (.inr (.inr (.inr (fun _ => none))))) := (cat_lo (by decide)).trans h431
  have a431 := (cat_lo (N := 434) (g := b46) (show 431 < 434 by decide)).trans a431
  have hBL := BL_push (b := b46) (T := T47) hBL (N := 434) (by decide +kernel) rfl hT49
  generalize cat 434 ad b46 = ad at G hBL h0 a0 h6 a6 h430 a430 h431 a431
  generalize cat 434 S T47 = S at G hBL h0 h6 h430 h431
  refine n_putF E G 0 12 h (fs := [.ref (b2 0), .ref (b7 0), .ref (b12 0), .ref (b17 0), .ref (b22 0), .ref (b27 0), .ref (b32 0), .ref (b37 0), .ref q41, .ref q42, .ref q43, .ref q44, .null, .null, .null, .null, .int 0, .int 0, .int 0]) (fs1 := [.ref (b2 0), .ref (b7 0), .ref (b12 0), .ref (b17 0), .ref (b22 0), .ref (b27 0), .ref (b32 0), .ref (b37 0), .ref q41, .ref q42, .ref q43, .ref q44, .ref (b46 0), .null, .null, .null, .int 0, .int 0, .int 0]) (by decide) a0 h0 rfl (fun w h => .tail _ (iA_23 h)) tyX11 tyX11_ok nmX11 (by decide) (.tail _ qA_671) ⟨rfl, rfl, rfl⟩ hin rfl rfl rfl (Nat.le_of_ble_eq_true rfl) rfl dX11_init_138 (fun H locs G => ?_)
  have hBL := BL_put (q := 0) (e := .inr (11, [.ref (b2 0), .ref (b7 0), .ref (b12 0), .ref (b17 0), .ref (b22 0), .ref (b27 0), .ref (b32 0), .ref (b37 0), .ref q41, .ref q42, .ref q43, .ref q44, .ref (b46 0), .null, .null, .null, .int 0, .int 0, .int 0])) hBL (by decide +kernel)
  have h6 := (va_up_ne S (.inr (11, [.ref (b2 0), .ref (b7 0), .ref (b12 0), .ref (b17 0), .ref (b22 0), .ref (b27 0), .ref (b32 0), .ref (b37 0), .ref q41, .ref q42, .ref q43, .ref q44, .ref (b46 0), .null, .null, .null, .int 0, .int 0, .int 0]) : va_E) (show 6 ≠ 0 by decide)).trans h6
  have h430 := (va_up_ne S (.inr (11, [.ref (b2 0), .ref (b7 0), .ref (b12 0), .ref (b17 0), .ref (b22 0), .ref (b27 0), .ref (b32 0), .ref (b37 0), .ref q41, .ref q42, .ref q43, .ref q44, .ref (b46 0), .null, .null, .null, .int 0, .int 0, .int 0]) : va_E) (show 430 ≠ 0 by decide)).trans h430
  have h431 := (va_up_ne S (.inr (11, [.ref (b2 0), .ref (b7 0), .ref (b12 0), .ref (b17 0), .ref (b22 0), .ref (b27 0), .ref (b32 0), .ref (b37 0), .ref q41, .ref q42, .ref q43, .ref q44, .ref (b46 0), .null, .null, .null, .int 0, .int 0, .int 0]) : va_E) (show 431 ≠ 0 by decide)).trans h431
  have h0 := va_up_self S 0 (.inr (11, [.ref (b2 0), .ref (b7 0), .ref (b12 0), .ref (b17 0), .ref (b22 0), .ref (b27 0), .ref (b32 0), .ref (b37 0), .ref q41, .ref q42, .ref q43, .ref q44, .ref (b46 0), .null, .null, .null, .int 0, .int 0, .int 0]) : va_E)
  generalize va_up S 0 (.inr (11, [.ref (b2 0), .ref (b7 0), .ref (b12 0), .ref (b17 0), .ref (b22 0), .ref (b27 0), .ref (b32 0), .ref (b37 0), .ref q41, .ref q42, .ref q43, .ref q44, .ref (b46 0), .null, .null, .null, .int 0, .int 0, .int 0])) = S at G hBL h0 h6 h430 h431
  refine lv_aload_n hx hb dX11_init_141 rfl (lv_at hl 0 rfl) ?_
  refine lv_sipush (v := 155) hx hb dX11_init_142 (by decide) ?_
  refine n_newi E G hA 0 (K := 155) (.tail _ qA_157) rfl rfl (by decide) (Nat.le_of_ble_eq_true rfl) (Nat.le_of_ble_eq_true rfl) dX11_init_145 (fun q50 H G => ?_)
  have h0 : cat 477 S (fun _ => .inl (cI, 155, .inl (fun _ => 0))) 0 = .inr (11, [.ref (b2 0), .ref (b7 0), .ref (b12 0), .ref (b17 0), .ref (b22 0), .ref (b27 0), .ref (b32 0), .ref (b37 0), .ref q41, .ref q42, .ref q43, .ref q44, .ref (b46 0), .null, .null, .null, .int 0, .int 0, .int 0]) := (cat_lo (by decide)).trans h0
  have a0 := (cat_lo (N := 477) (g := (fun _ => q50)) (show 0 < 477 by decide)).trans a0
  have h6 : cat 477 S (fun _ => .inl (cI, 155, .inl (fun _ => 0))) 6 = .inr (3, [.ref (b2 0), .int 0, .int 0, .int (-1)]) := (cat_lo (by decide)).trans h6
  have a6 := (cat_lo (N := 477) (g := (fun _ => q50)) (show 6 < 477 by decide)).trans a6
  have h430 : cat 477 S (fun _ => .inl (cI, 155, .inl (fun _ => 0))) 430 = .inl (cSt, 6, .inr (.inr (.inr (.inr (fun _ => none))))) := (cat_lo (by decide)).trans h430
  have a430 := (cat_lo (N := 477) (g := (fun _ => q50)) (show 430 < 477 by decide)).trans a430
  have h431 : cat 477 S (fun _ => .inl (cI, 155, .inl (fun _ => 0))) 431 = .inl (cSt, 2, .inr (.inr (.inr (.inr (fun _ => none))))) := (cat_lo (by decide)).trans h431
  have a431 := (cat_lo (N := 477) (g := (fun _ => q50)) (show 431 < 477 by decide)).trans a431
  have hBL := BL_push (b := (fun _ => q50)) (T := (fun _ => .inl (cI, 155, .inl (fun _ => 0)))) hBL (N := 477) (by decide +kernel) rfl (fun _ _ => rfl)
  generalize cat 477 ad (fun _ => q50) = ad at G hBL h0 a0 h6 a6 h430 a430 h431 a431
  generalize cat 477 S (fun _ => .inl (cI, 155, .inl (fun _ => 0))) = S at G hBL h0 h6 h430 h431
  refine n_putF E G 0 13 h (fs := [.ref (b2 0), .ref (b7 0), .ref (b12 0), .ref (b17 0), .ref (b22 0), .ref (b27 0), .ref (b32 0), .ref (b37 0), .ref q41, .ref q42, .ref q43, .ref q44, .ref (b46 0), .null, .null, .null, .int 0, .int 0, .int 0]) (fs1 := [.ref (b2 0), .ref (b7 0), .ref (b12 0), .ref (b17 0), .ref (b22 0), .ref (b27 0), .ref (b32 0), .ref (b37 0), .ref q41, .ref q42, .ref q43, .ref q44, .ref (b46 0), .ref q50, .null, .null, .int 0, .int 0, .int 0]) (by decide) a0 h0 rfl (fun w h => .tail _ (iA_23 h)) tyX11 tyX11_ok nmX11 (by decide) (.tail _ qA_672) ⟨rfl, rfl, rfl⟩ hin rfl rfl rfl (Nat.le_of_ble_eq_true rfl) rfl dX11_init_147 (fun H locs G => ?_)
  have hBL := BL_put (q := 0) (e := .inr (11, [.ref (b2 0), .ref (b7 0), .ref (b12 0), .ref (b17 0), .ref (b22 0), .ref (b27 0), .ref (b32 0), .ref (b37 0), .ref q41, .ref q42, .ref q43, .ref q44, .ref (b46 0), .ref q50, .null, .null, .int 0, .int 0, .int 0])) hBL (by decide +kernel)
  have h6 := (va_up_ne S (.inr (11, [.ref (b2 0), .ref (b7 0), .ref (b12 0), .ref (b17 0), .ref (b22 0), .ref (b27 0), .ref (b32 0), .ref (b37 0), .ref q41, .ref q42, .ref q43, .ref q44, .ref (b46 0), .ref q50, .null, .null, .int 0, .int 0, .int 0]) : va_E) (show 6 ≠ 0 by decide)).trans h6
  have h430 := (va_up_ne S (.inr (11, [.ref (b2 0), .ref (b7 0), .ref (b12 0), .ref (b17 0), .ref (b22 0), .ref (b27 0), .ref (b32 0), .ref (b37 0), .ref q41, .ref q42, .ref q43, .ref q44, .ref (b46 0), .ref q50, .null, .null, .int 0, .int 0, .int 0]) : va_E) (show 430 ≠ 0 by decide)).trans h430
  have h431 := (va_up_ne S (.inr (11, [.ref (b2 0), .ref (b7 0), .ref (b12 0), .ref (b17 0), .ref (b22 0), .ref (b27 0), .ref (b32 0), .ref (b37 0), .ref q41, .ref q42, .ref q43, .ref q44, .ref (b46 0), .ref q50, .null, .null, .int 0, .int 0, .int 0]) : va_E) (show 431 ≠ 0 by decide)).trans h431
  have h0 := va_up_self S 0 (.inr (11, [.ref (b2 0), .ref (b7 0), .ref (b12 0), .ref (b17 0), .ref (b22 0), .ref (b27 0), .ref (b32 0), .ref (b37 0), .ref q41, .ref q42, .ref q43, .ref q44, .ref (b46 0), .ref q50, .null, .null, .int 0, .int 0, .int 0]) : va_E)
  generalize va_up S 0 (.inr (11, [.ref (b2 0), .ref (b7 0), .ref (b12 0), .ref (b17 0), .ref (b22 0), .ref (b27 0), .ref (b32 0), .ref (b37 0), .ref q41, .ref q42, .ref q43, .ref q44, .ref (b46 0), .ref q50, .null, .null, .int 0, .int 0, .int 0])) = S at G hBL h0 h6 h430 h431
  refine lv_aload_n hx hb dX11_init_150 rfl (lv_at hl 0 rfl) ?_
  refine n_new E G hA (ci := 6) (fs := [.int 0, .int 0, .int 0, .int 0, .null, .int 0, .null, .null, .int 0, .null, .null, .int 0, .int 0, .null, .int 0, .null, .int 0, .null]) (fun w h => .tail _ (iA_14 h)) tyX6 tyX6_ok (.tail _ qA_673) (.tail _ qA_674) (.tail _ qA_207) rfl (by decide) (Nat.le_of_ble_eq_true rfl) (Nat.le_of_ble_eq_true rfl) dX11_init_151 (fun q51 H G => ?_)
  refine lv_dup hx hb dX11_init_154 rfl ?_
  refine n_init (N := 478) E G hA hxs nX.moved hml (n_X6 l D cI cJ cZ cMic cSrc cSt cAI cAJ) (cwI 0 hts (gaC qA_557) rfl rfl rfl (hts _ (.tail _ qA_207)) (hts _ (.tail _ qA_685)) (hts _ (.tail _ qA_686)) rfl (by decide +kernel) ⟨Nat.le_of_ble_eq_true rfl, Nat.le_of_ble_eq_true rfl⟩) (cat_hi (Nat.le_refl _)) (cat_hi (Nat.le_refl _)) hl.1 (lv_room (Nat.le_of_ble_eq_true rfl)) dX11_init_155 ⟨Nat.le_of_ble_eq_true rfl, Nat.le_of_ble_eq_true rfl⟩ (fun b52 T53 H locs hb54 hT55 G => ?_)
  subst hb54
  rw [cat_cat, cat_cat] at G
  have G : cG D (cat 478 ad b52) 656 A s.heap H locs (cat 478 S T53) := G
  have h0 : cat 478 S T53 0 = .inr (11, [.ref (b2 0), .ref (b7 0), .ref (b12 0), .ref (b17 0), .ref (b22 0), .ref (b27 0), .ref (b32 0), .ref (b37 0), .ref q41, .ref q42, .ref q43, .ref q44, .ref (b46 0), .ref q50, .null, .null, .int 0, .int 0, .int 0]) := (cat_lo (by decide)).trans h0
  have a0 := (cat_lo (N := 478) (g := b52) (show 0 < 478 by decide)).trans a0
  have h6 : cat 478 S T53 6 = .inr (3, [.ref (b2 0), .int 0, .int 0, .int (-1)]) := (cat_lo (by decide)).trans h6
  have a6 := (cat_lo (N := 478) (g := b52) (show 6 < 478 by decide)).trans a6
  have h430 : cat 478 S T53 430 = .inl (cSt, 6, .inr (.inr (.inr (.inr (fun _ => none))))) := (cat_lo (by decide)).trans h430
  have a430 := (cat_lo (N := 478) (g := b52) (show 430 < 478 by decide)).trans a430
  have h431 : cat 478 S T53 431 = .inl (cSt, 2, .inr (.inr (.inr (.inr (fun _ => none))))) := (cat_lo (by decide)).trans h431
  have a431 := (cat_lo (N := 478) (g := b52) (show 431 < 478 by decide)).trans a431
  have hBL := BL_push (b := b52) (T := T53) hBL (N := 478) (by decide +kernel) rfl hT55
  generalize cat 478 ad b52 = ad at G hBL h0 a0 h6 a6 h430 a430 h431 a431
  generalize cat 478 S T53 = S at G hBL h0 h6 h430 h431
  refine n_put E G 0 14 h (fs := [.ref (b2 0), .ref (b7 0), .ref (b12 0), .ref (b17 0), .ref (b22 0), .ref (b27 0), .ref (b32 0), .ref (b37 0), .ref q41, .ref q42, .ref q43, .ref q44, .ref (b46 0), .ref q50, .null, .null, .int 0, .int 0, .int 0]) (fs1 := [.ref (b2 0), .ref (b7 0), .ref (b12 0), .ref (b17 0), .ref (b22 0), .ref (b27 0), .ref (b32 0), .ref (b37 0), .ref q41, .ref q42, .ref q43, .ref q44, .ref (b46 0), .ref q50, .ref (b52 0), .null, .int 0, .int 0, .int 0]) (by decide) a0 h0 rfl (fun w h => .tail _ (iA_23 h)) tyX11 tyX11_ok nmX11 (by decide) (.tail _ qA_675) ⟨rfl, rfl, rfl⟩ rfl rfl (Nat.le_of_ble_eq_true rfl) rfl dX11_init_158 (fun H locs G => ?_)
  have hBL := BL_put (q := 0) (e := .inr (11, [.ref (b2 0), .ref (b7 0), .ref (b12 0), .ref (b17 0), .ref (b22 0), .ref (b27 0), .ref (b32 0), .ref (b37 0), .ref q41, .ref q42, .ref q43, .ref q44, .ref (b46 0), .ref q50, .ref (b52 0), .null, .int 0, .int 0, .int 0])) hBL (by decide +kernel)
  have h6 := (va_up_ne S (.inr (11, [.ref (b2 0), .ref (b7 0), .ref (b12 0), .ref (b17 0), .ref (b22 0), .ref (b27 0), .ref (b32 0), .ref (b37 0), .ref q41, .ref q42, .ref q43, .ref q44, .ref (b46 0), .ref q50, .ref (b52 0), .null, .int 0, .int 0, .int 0]) : va_E) (show 6 ≠ 0 by decide)).trans h6
  have h430 := (va_up_ne S (.inr (11, [.ref (b2 0), .ref (b7 0), .ref (b12 0), .ref (b17 0), .ref (b22 0), .ref (b27 0), .ref (b32 0), .ref (b37 0), .ref q41, .ref q42, .ref q43, .ref q44, .ref (b46 0), .ref q50, .ref (b52 0), .null, .int 0, .int 0, .int 0]) : va_E) (show 430 ≠ 0 by decide)).trans h430
  have h431 := (va_up_ne S (.inr (11, [.ref (b2 0), .ref (b7 0), .ref (b12 0), .ref (b17 0), .ref (b22 0), .ref (b27 0), .ref (b32 0), .ref (b37 0), .ref q41, .ref q42, .ref q43, .ref q44, .ref (b46 0), .ref q50, .ref (b52 0), .null, .int 0, .int 0, .int 0]) : va_E) (show 431 ≠ 0 by decide)).trans h431
  have h0 := va_up_self S 0 (.inr (11, [.ref (b2 0), .ref (b7 0), .ref (b12 0), .ref (b17 0), .ref (b22 0), .ref (b27 0), .ref (b32 0), .ref (b37 0), .ref q41, .ref q42, .ref q43, .ref q44, .ref (b46 0), .ref q50, .ref (b52 0), .null, .int 0, .int 0, .int 0]) : va_E)
  generalize va_up S 0 (.inr (11, [.ref (b2 0), .ref (b7 0), .ref (b12 0), .ref (b17 0), .ref (b22 0), .ref (b27 0), .ref (b32 0), .ref (b37 0), .ref q41, .ref q42, .ref q43, .ref q44, .ref (b46 0), .ref q50, .ref (b52 0), .null, .int 0, .int 0, .int 0])) = S at G hBL h0 h6 h430 h431
  refine lv_aload_n hx hb dX11_init_161 rfl (lv_at hl 0 rfl) ?_
  refine n_new E G hA (ci := 6) (fs := [.int 0, .int 0, .int 0, .int 0, .null, .int 0, .null, .null, .int 0, .null, .null, .int 0, .int 0, .null, .int 0, .null, .int 0, .null]) (fun w h => .tail _ (iA_14 h)) tyX6 tyX6_ok (.tail _ qA_673) (.tail _ qA_674) (.tail _ qA_207) rfl (by decide) (Nat.le_of_ble_eq_true rfl) (Nat.le_of_ble_eq_true rfl) dX11_init_162 (fun q56 H G => ?_)
  refine lv_dup hx hb dX11_init_165 rfl ?_
  refine n_init (N := 656) E G hA hxs nX.moved hml (n_X6 l D cI cJ cZ cMic cSrc cSt cAI cAJ) (cwI 0 hts (gaC qA_557) rfl rfl rfl (hts _ (.tail _ qA_207)) (hts _ (.tail _ qA_685)) (hts _ (.tail _ qA_686)) rfl (by decide +kernel) ⟨Nat.le_of_ble_eq_true rfl, Nat.le_of_ble_eq_true rfl⟩) (cat_hi (Nat.le_refl _)) (cat_hi (Nat.le_refl _)) hl.1 (lv_room (Nat.le_of_ble_eq_true rfl)) dX11_init_166 ⟨Nat.le_of_ble_eq_true rfl, Nat.le_of_ble_eq_true rfl⟩ (fun b57 T58 H locs hb59 hT60 G => ?_)
  subst hb59
  rw [cat_cat, cat_cat] at G
  have G : cG D (cat 656 ad b57) 834 A s.heap H locs (cat 656 S T58) := G
  have h0 : cat 656 S T58 0 = .inr (11, [.ref (b2 0), .ref (b7 0), .ref (b12 0), .ref (b17 0), .ref (b22 0), .ref (b27 0), .ref (b32 0), .ref (b37 0), .ref q41, .ref q42, .ref q43, .ref q44, .ref (b46 0), .ref q50, .ref (b52 0), .null, .int 0, .int 0, .int 0]) := (cat_lo (by decide)).trans h0
  have a0 := (cat_lo (N := 656) (g := b57) (show 0 < 656 by decide)).trans a0
  have h6 : cat 656 S T58 6 = .inr (3, [.ref (b2 0), .int 0, .int 0, .int (-1)]) := (cat_lo (by decide)).trans h6
  have a6 := (cat_lo (N := 656) (g := b57) (show 6 < 656 by decide)).trans a6
  have h430 : cat 656 S T58 430 = .inl (cSt, 6, .inr (.inr (.inr (.inr (fun _ => none))))) := (cat_lo (by decide)).trans h430
  have a430 := (cat_lo (N := 656) (g := b57) (show 430 < 656 by decide)).trans a430
  have h431 : cat 656 S T58 431 = .inl (cSt, 2, .inr (.inr (.inr (.inr (fun _ => none))))) := (cat_lo (by decide)).trans h431
  have a431 := (cat_lo (N := 656) (g := b57) (show 431 < 656 by decide)).trans a431
  have hBL := BL_push (b := b57) (T := T58) hBL (N := 656) (by decide +kernel) rfl hT60
  generalize cat 656 ad b57 = ad at G hBL h0 a0 h6 a6 h430 a430 h431 a431
  generalize cat 656 S T58 = S at G hBL h0 h6 h430 h431
  refine n_put E G 0 15 h (fs := [.ref (b2 0), .ref (b7 0), .ref (b12 0), .ref (b17 0), .ref (b22 0), .ref (b27 0), .ref (b32 0), .ref (b37 0), .ref q41, .ref q42, .ref q43, .ref q44, .ref (b46 0), .ref q50, .ref (b52 0), .null, .int 0, .int 0, .int 0]) (fs1 := [.ref (b2 0), .ref (b7 0), .ref (b12 0), .ref (b17 0), .ref (b22 0), .ref (b27 0), .ref (b32 0), .ref (b37 0), .ref q41, .ref q42, .ref q43, .ref q44, .ref (b46 0), .ref q50, .ref (b52 0), .ref (b57 0), .int 0, .int 0, .int 0]) (by decide) a0 h0 rfl (fun w h => .tail _ (iA_23 h)) tyX11 tyX11_ok nmX11 (by decide) (.tail _ qA_676) ⟨rfl, rfl, rfl⟩ rfl rfl (Nat.le_of_ble_eq_true rfl) rfl dX11_init_169 (fun H locs G => ?_)
  have hBL := BL_put (q := 0) (e := .inr (11, [.ref (b2 0), .ref (b7 0), .ref (b12 0), .ref (b17 0), .ref (b22 0), .ref (b27 0), .ref (b32 0), .ref (b37 0), .ref q41, .ref q42, .ref q43, .ref q44, .ref (b46 0), .ref q50, .ref (b52 0), .ref (b57 0), .int 0, .int 0, .int 0])) hBL (by decide +kernel)
  have h6 := (va_up_ne S (.inr (11, [.ref (b2 0), .ref (b7 0), .ref (b12 0), .ref (b17 0), .ref (b22 0), .ref (b27 0), .ref (b32 0), .ref (b37 0), .ref q41, .ref q42, .ref q43, .ref q44, .ref (b46 0), .ref q50, .ref (b52 0), .ref (b57 0), .int 0, .int 0, .int 0]) : va_E) (show 6 ≠ 0 by decide)).trans h6
  have h430 := (va_up_ne S (.inr (11, [.ref (b2 0), .ref (b7 0), .ref (b12 0), .ref (b17 0), .ref (b22 0), .ref (b27 0), .ref (b32 0), .ref (b37 0), .ref q41, .ref q42, .ref q43, .ref q44, .ref (b46 0), .ref q50, .ref (b52 0), .ref (b57 0), .int 0, .int 0, .int 0]) : va_E) (show 430 ≠ 0 by decide)).trans h430
  have h431 := (va_up_ne S (.inr (11, [.ref (b2 0), .ref (b7 0), .ref (b12 0), .ref (b17 0), .ref (b22 0), .ref (b27 0), .ref (b32 0), .ref (b37 0), .ref q41, .ref q42, .ref q43, .ref q44, .ref (b46 0), .ref q50, .ref (b52 0), .ref (b57 0), .int 0, .int 0, .int 0]) : va_E) (show 431 ≠ 0 by decide)).trans h431
  have h0 := va_up_self S 0 (.inr (11, [.ref (b2 0), .ref (b7 0), .ref (b12 0), .ref (b17 0), .ref (b22 0), .ref (b27 0), .ref (b32 0), .ref (b37 0), .ref q41, .ref q42, .ref q43, .ref q44, .ref (b46 0), .ref q50, .ref (b52 0), .ref (b57 0), .int 0, .int 0, .int 0]) : va_E)
  generalize va_up S 0 (.inr (11, [.ref (b2 0), .ref (b7 0), .ref (b12 0), .ref (b17 0), .ref (b22 0), .ref (b27 0), .ref (b32 0), .ref (b37 0), .ref q41, .ref q42, .ref q43, .ref q44, .ref (b46 0), .ref q50, .ref (b52 0), .ref (b57 0), .int 0, .int 0, .int 0])) = S at G hBL h0 h6 h430 h431
  refine lv_iconst (v := 0) hx hb dX11_init_172 (by decide) ?_
  refine lv_istore_n (lv' := [(1, .int 0), (0, .ref h)]) hx hb dX11_init_173 rfl hl (by decide) rfl (fun ls hl => ?_)
  refine lv_iload_n hx hb dX11_init_174 rfl (lv_at hl 0 rfl) ?_
  refine lv_bipush (v := 6) hx hb dX11_init_175 (by decide) ?_
  refine lv_icmp_ge (tgt := 199) hx hb dX11_init_177 (by decide) (fun c61 => absurd c61 (by decide +kernel)) (fun c61 => ?_)
  refine lv_aload_n hx hb dX11_init_180 rfl (lv_at hl 1 rfl) ?_
  refine n_getr E G 0 8 h (fs := [.ref (b2 0), .ref (b7 0), .ref (b12 0), .ref (b17 0), .ref (b22 0), .ref (b27 0), .ref (b32 0), .ref (b37 0), .ref q41, .ref q42, .ref q43, .ref q44, .ref (b46 0), .ref q50, .ref (b52 0), .ref (b57 0), .int 0, .int 0, .int 0]) (by decide) a0 h0 rfl (fun w h => .tail _ (iA_23 h)) (by decide) (.tail _ qA_666) rfl rfl dX11_init_181 ?_
  refine lv_iload_n hx hb dX11_init_184 rfl (lv_at hl 0 rfl) ?_
  refine n_new E G hA (ci := 8) (fs := [.int 0, .int 0, .int 0, .null, .null, .null, .null, .null, .null, .null, .null, .null]) (fun w h => .tail _ (iA_16 h)) tyX8 tyX8_ok (.tail _ qA_662) (.tail _ qA_663) (.tail _ qA_47) rfl (by decide) (Nat.le_of_ble_eq_true rfl) (Nat.le_of_ble_eq_true rfl) dX11_init_185 (fun q62 H G => ?_)
  refine lv_dup hx hb dX11_init_188 rfl ?_
  refine n_initN (N := 834) E G hA hxs nX.moved hml (n_X8 l D cI cJ cZ cMic cSrc cSt cAI cAJ) ⟨va_cnB (host := "AcousticCamera") 0 hts (gaC qA_582) rfl rfl rfl (hxs.2.2.2.2.2 _ (List.mem_of_getElem? (i := 5) rfl)) (hts _ (.tail _ qA_47)) (by decide +kernel) ⟨Nat.le_of_ble_eq_true rfl, Nat.le_of_ble_eq_true rfl⟩, rfl, hts _ (.tail _ qA_683)⟩ (cat_hi (Nat.le_refl _)) (cat_hi (Nat.le_refl _)) hl.1 (lv_room (Nat.le_of_ble_eq_true rfl)) dX11_init_189 ⟨Nat.le_of_ble_eq_true rfl, Nat.le_of_ble_eq_true rfl⟩ (fun b63 T64 H locs hb65 hT66 G => ?_)
  subst hb65
  rw [cat_cat, cat_cat] at G
  have G : cG D (cat 834 ad b63) 928 A s.heap H locs (cat 834 S T64) := G
  have h0 : cat 834 S T64 0 = .inr (11, [.ref (b2 0), .ref (b7 0), .ref (b12 0), .ref (b17 0), .ref (b22 0), .ref (b27 0), .ref (b32 0), .ref (b37 0), .ref q41, .ref q42, .ref q43, .ref q44, .ref (b46 0), .ref q50, .ref (b52 0), .ref (b57 0), .int 0, .int 0, .int 0]) := (cat_lo (by decide)).trans h0
  have a0 := (cat_lo (N := 834) (g := b63) (show 0 < 834 by decide)).trans a0
  have h6 : cat 834 S T64 6 = .inr (3, [.ref (b2 0), .int 0, .int 0, .int (-1)]) := (cat_lo (by decide)).trans h6
  have a6 := (cat_lo (N := 834) (g := b63) (show 6 < 834 by decide)).trans a6
  have h430 : cat 834 S T64 430 = .inl (cSt, 6, .inr (.inr (.inr (.inr (fun _ => none))))) := (cat_lo (by decide)).trans h430
  have a430 := (cat_lo (N := 834) (g := b63) (show 430 < 834 by decide)).trans a430
  have h431 : cat 834 S T64 431 = .inl (cSt, 2, .inr (.inr (.inr (.inr (fun _ => none))))) := (cat_lo (by decide)).trans h431
  have a431 := (cat_lo (N := 834) (g := b63) (show 431 < 834 by decide)).trans a431
  have hBL := BL_push (b := b63) (T := T64) hBL (N := 834) (by decide +kernel) rfl hT66
  generalize cat 834 ad b63 = ad at G hBL h0 a0 h6 a6 h430 a430 h431 a431
  generalize cat 834 S T64 = S at G hBL h0 h6 h430 h431
  have hv := hBL 13 (by decide) 0 (by decide)
  refine n_astq E G 430 5 834 (r := (RX8, TX8, 12)) (ci := 8) (vs := [.int 0, .int 0, .int 0, .ref (b63 1), .ref (b63 2), .ref (b63 3), .ref (b63 4), .ref (b63 5), .ref (b63 6), .ref (b63 7), .ref (b63 8), .ref (b63 51)]) (k := 0) (f := (fun _ => none)) (by decide) a430 h430 rfl (by decide) hv.2 hv.1 rfl rfl (by decide) (by decide) dX11_init_192 (fun H locs G => ?_)
  have hBL := BL_put (q := 430) (e := .inl (cSt, 6, .inr (.inr (.inr (.inr (va_up (fun _ => none) 0 (some (b63 0)))))))) hBL (by decide +kernel)
  have h0 := (va_up_ne S (.inl (cSt, 6, .inr (.inr (.inr (.inr (va_up (fun _ => none) 0 (some (b63 0))))))) : va_E) (show 0 ≠ 430 by decide)).trans h0
  have h6 := (va_up_ne S (.inl (cSt, 6, .inr (.inr (.inr (.inr (va_up (fun _ => none) 0 (some (b63 0))))))) : va_E) (show 6 ≠ 430 by decide)).trans h6
  have h431 := (va_up_ne S (.inl (cSt, 6, .inr (.inr (.inr (.inr (va_up (fun _ => none) 0 (some (b63 0))))))) : va_E) (show 431 ≠ 430 by decide)).trans h431
  have h430 := va_up_self S 430 (.inl (cSt, 6, .inr (.inr (.inr (.inr (va_up (fun _ => none) 0 (some (b63 0))))))) : va_E)
  generalize va_up S 430 (.inl (cSt, 6, .inr (.inr (.inr (.inr (va_up (fun _ => none) 0 (some (b63 0)))))))) = S at G hBL h0 h6 h430 h431
  refine lv_iinc (v := 1) (lv' := [(1, .int 1), (0, .ref h)]) hx hb dX11_init_193 hl (k := 0) rfl (by decide +kernel) (by decide) rfl (fun ls hl => ?_)
  refine lv_goto (tgt := 174) hx hb dX11_init_196 (by decide) ?_
  refine lv_iload_n hx hb dX11_init_174 rfl (lv_at hl 0 rfl) ?_
  refine lv_bipush (v := 6) hx hb dX11_init_175 (by decide) ?_
  refine lv_icmp_ge (tgt := 199) hx hb dX11_init_177 (by decide) (fun c67 => absurd c67 (by decide +kernel)) (fun c67 => ?_)
  refine lv_aload_n hx hb dX11_init_180 rfl (lv_at hl 1 rfl) ?_
  refine n_getr E G 0 8 h (fs := [.ref (b2 0), .ref (b7 0), .ref (b12 0), .ref (b17 0), .ref (b22 0), .ref (b27 0), .ref (b32 0), .ref (b37 0), .ref q41, .ref q42, .ref q43, .ref q44, .ref (b46 0), .ref q50, .ref (b52 0), .ref (b57 0), .int 0, .int 0, .int 0]) (by decide) a0 h0 rfl (fun w h => .tail _ (iA_23 h)) (by decide) (.tail _ qA_666) rfl rfl dX11_init_181 ?_
  refine lv_iload_n hx hb dX11_init_184 rfl (lv_at hl 0 rfl) ?_
  refine n_new E G hA (ci := 8) (fs := [.int 0, .int 0, .int 0, .null, .null, .null, .null, .null, .null, .null, .null, .null]) (fun w h => .tail _ (iA_16 h)) tyX8 tyX8_ok (.tail _ qA_662) (.tail _ qA_663) (.tail _ qA_47) rfl (by decide) (Nat.le_of_ble_eq_true rfl) (Nat.le_of_ble_eq_true rfl) dX11_init_185 (fun q68 H G => ?_)
  refine lv_dup hx hb dX11_init_188 rfl ?_
  refine n_initN (N := 928) E G hA hxs nX.moved hml (n_X8 l D cI cJ cZ cMic cSrc cSt cAI cAJ) ⟨va_cnB (host := "AcousticCamera") 0 hts (gaC qA_582) rfl rfl rfl (hxs.2.2.2.2.2 _ (List.mem_of_getElem? (i := 5) rfl)) (hts _ (.tail _ qA_47)) (by decide +kernel) ⟨Nat.le_of_ble_eq_true rfl, Nat.le_of_ble_eq_true rfl⟩, rfl, hts _ (.tail _ qA_683)⟩ (cat_hi (Nat.le_refl _)) (cat_hi (Nat.le_refl _)) hl.1 (lv_room (Nat.le_of_ble_eq_true rfl)) dX11_init_189 ⟨Nat.le_of_ble_eq_true rfl, Nat.le_of_ble_eq_true rfl⟩ (fun b69 T70 H locs hb71 hT72 G => ?_)
  subst hb71
  rw [cat_cat, cat_cat] at G
  have G : cG D (cat 928 ad b69) 1022 A s.heap H locs (cat 928 S T70) := G
  have h0 : cat 928 S T70 0 = .inr (11, [.ref (b2 0), .ref (b7 0), .ref (b12 0), .ref (b17 0), .ref (b22 0), .ref (b27 0), .ref (b32 0), .ref (b37 0), .ref q41, .ref q42, .ref q43, .ref q44, .ref (b46 0), .ref q50, .ref (b52 0), .ref (b57 0), .int 0, .int 0, .int 0]) := (cat_lo (by decide)).trans h0
  have a0 := (cat_lo (N := 928) (g := b69) (show 0 < 928 by decide)).trans a0
  have h6 : cat 928 S T70 6 = .inr (3, [.ref (b2 0), .int 0, .int 0, .int (-1)]) := (cat_lo (by decide)).trans h6
  have a6 := (cat_lo (N := 928) (g := b69) (show 6 < 928 by decide)).trans a6
  have h430 : cat 928 S T70 430 = .inl (cSt, 6, .inr (.inr (.inr (.inr (va_up (fun _ => none) 0 (some (b63 0))))))) := (cat_lo (by decide)).trans h430
  have a430 := (cat_lo (N := 928) (g := b69) (show 430 < 928 by decide)).trans a430
  have h431 : cat 928 S T70 431 = .inl (cSt, 2, .inr (.inr (.inr (.inr (fun _ => none))))) := (cat_lo (by decide)).trans h431
  have a431 := (cat_lo (N := 928) (g := b69) (show 431 < 928 by decide)).trans a431
  have hBL := BL_push (b := b69) (T := T70) hBL (N := 928) (by decide +kernel) rfl hT72
  generalize cat 928 ad b69 = ad at G hBL h0 a0 h6 a6 h430 a430 h431 a431
  generalize cat 928 S T70 = S at G hBL h0 h6 h430 h431
  have hv := hBL 14 (by decide) 0 (by decide)
  refine n_astq E G 430 5 928 (r := (RX8, TX8, 12)) (ci := 8) (vs := [.int 0, .int 0, .int 0, .ref (b69 1), .ref (b69 2), .ref (b69 3), .ref (b69 4), .ref (b69 5), .ref (b69 6), .ref (b69 7), .ref (b69 8), .ref (b69 51)]) (k := 1) (f := (va_up (fun _ => none) 0 (some (b63 0)))) (by decide) a430 h430 rfl (by decide) hv.2 hv.1 rfl rfl (by decide) (by decide) dX11_init_192 (fun H locs G => ?_)
  have hBL := BL_put (q := 430) (e := .inl (cSt, 6, .inr (.inr (.inr (.inr (va_up (va_up (fun _ => none) 0 (some (b63 0))) 1 (some (b69 0)))))))) hBL (by decide +kernel)
  have h0 := (va_up_ne S (.inl (cSt, 6, .inr (.inr (.inr (.inr (va_up (va_up (fun _ => none) 0 (some (b63 0))) 1 (some (b69 0))))))) : va_E) (show 0 ≠ 430 by decide)).trans h0
  have h6 := (va_up_ne S (.inl (cSt, 6, .inr (.inr (.inr (.inr (va_up (va_up (fun _ => none) 0 (some (b63 0))) 1 (some (b69 0))))))) : va_E) (show 6 ≠ 430 by decide)).trans h6
  have h431 := (va_up_ne S (.inl (cSt, 6, .inr (.inr (.inr (.inr (va_up (va_up (fun _ => none) 0 (some (b63 0))) 1 (some (b69 0))))))) : va_E) (show 431 ≠ 430 by decide)).trans h431
  have h430 := va_up_self S 430 (.inl (cSt, 6, .inr (.inr (.inr (.inr (va_up (va_up (fun _ => none) 0 (some (b63 0))) 1 (some (b69 0))))))) : va_E)
  generalize va_up S 430 (.inl (cSt, 6, .inr (.inr (.inr (.inr (va_up (va_up (fun _ => none) 0 (some (b63 0))) 1 (some (b69 0)))))))) = S at G hBL h0 h6 h430 h431
  refine lv_iinc (v := 2) (lv' := [(1, .int 2), (0, .ref h)]) hx hb dX11_init_193 hl (k := 0) rfl (by decide +kernel) (by decide) rfl (fun ls hl => ?_)
  refine lv_goto (tgt := 174) hx hb dX11_init_196 (by decide) ?_
  refine lv_iload_n hx hb dX11_init_174 rfl (lv_at hl 0 rfl) ?_
  refine lv_bipush (v := 6) hx hb dX11_init_175 (by decide) ?_
  refine lv_icmp_ge (tgt := 199) hx hb dX11_init_177 (by decide) (fun c73 => absurd c73 (by decide +kernel)) (fun c73 => ?_)
  refine lv_aload_n hx hb dX11_init_180 rfl (lv_at hl 1 rfl) ?_
  refine n_getr E G 0 8 h (fs := [.ref (b2 0), .ref (b7 0), .ref (b12 0), .ref (b17 0), .ref (b22 0), .ref (b27 0), .ref (b32 0), .ref (b37 0), .ref q41, .ref q42, .ref q43, .ref q44, .ref (b46 0), .ref q50, .ref (b52 0), .ref (b57 0), .int 0, .int 0, .int 0]) (by decide) a0 h0 rfl (fun w h => .tail _ (iA_23 h)) (by decide) (.tail _ qA_666) rfl rfl dX11_init_181 ?_
  refine lv_iload_n hx hb dX11_init_184 rfl (lv_at hl 0 rfl) ?_
  refine n_new E G hA (ci := 8) (fs := [.int 0, .int 0, .int 0, .null, .null, .null, .null, .null, .null, .null, .null, .null]) (fun w h => .tail _ (iA_16 h)) tyX8 tyX8_ok (.tail _ qA_662) (.tail _ qA_663) (.tail _ qA_47) rfl (by decide) (Nat.le_of_ble_eq_true rfl) (Nat.le_of_ble_eq_true rfl) dX11_init_185 (fun q74 H G => ?_)
  refine lv_dup hx hb dX11_init_188 rfl ?_
  refine n_initN (N := 1022) E G hA hxs nX.moved hml (n_X8 l D cI cJ cZ cMic cSrc cSt cAI cAJ) ⟨va_cnB (host := "AcousticCamera") 0 hts (gaC qA_582) rfl rfl rfl (hxs.2.2.2.2.2 _ (List.mem_of_getElem? (i := 5) rfl)) (hts _ (.tail _ qA_47)) (by decide +kernel) ⟨Nat.le_of_ble_eq_true rfl, Nat.le_of_ble_eq_true rfl⟩, rfl, hts _ (.tail _ qA_683)⟩ (cat_hi (Nat.le_refl _)) (cat_hi (Nat.le_refl _)) hl.1 (lv_room (Nat.le_of_ble_eq_true rfl)) dX11_init_189 ⟨Nat.le_of_ble_eq_true rfl, Nat.le_of_ble_eq_true rfl⟩ (fun b75 T76 H locs hb77 hT78 G => ?_)
  subst hb77
  rw [cat_cat, cat_cat] at G
  have G : cG D (cat 1022 ad b75) 1116 A s.heap H locs (cat 1022 S T76) := G
  have h0 : cat 1022 S T76 0 = .inr (11, [.ref (b2 0), .ref (b7 0), .ref (b12 0), .ref (b17 0), .ref (b22 0), .ref (b27 0), .ref (b32 0), .ref (b37 0), .ref q41, .ref q42, .ref q43, .ref q44, .ref (b46 0), .ref q50, .ref (b52 0), .ref (b57 0), .int 0, .int 0, .int 0]) := (cat_lo (by decide)).trans h0
  have a0 := (cat_lo (N := 1022) (g := b75) (show 0 < 1022 by decide)).trans a0
  have h6 : cat 1022 S T76 6 = .inr (3, [.ref (b2 0), .int 0, .int 0, .int (-1)]) := (cat_lo (by decide)).trans h6
  have a6 := (cat_lo (N := 1022) (g := b75) (show 6 < 1022 by decide)).trans a6
  have h430 : cat 1022 S T76 430 = .inl (cSt, 6, .inr (.inr (.inr (.inr (va_up (va_up (fun _ => none) 0 (some (b63 0))) 1 (some (b69 0))))))) := (cat_lo (by decide)).trans h430
  have a430 := (cat_lo (N := 1022) (g := b75) (show 430 < 1022 by decide)).trans a430
  have h431 : cat 1022 S T76 431 = .inl (cSt, 2, .inr (.inr (.inr (.inr (fun _ => none))))) := (cat_lo (by decide)).trans h431
  have a431 := (cat_lo (N := 1022) (g := b75) (show 431 < 1022 by decide)).trans a431
  have hBL := BL_push (b := b75) (T := T76) hBL (N := 1022) (by decide +kernel) rfl hT78
  generalize cat 1022 ad b75 = ad at G hBL h0 a0 h6 a6 h430 a430 h431 a431
  generalize cat 1022 S T76 = S at G hBL h0 h6 h430 h431
  have hv := hBL 15 (by decide) 0 (by decide)
  refine n_astq E G 430 5 1022 (r := (RX8, TX8, 12)) (ci := 8) (vs := [.int 0, .int 0, .int 0, .ref (b75 1), .ref (b75 2), .ref (b75 3), .ref (b75 4), .ref (b75 5), .ref (b75 6), .ref (b75 7), .ref (b75 8), .ref (b75 51)]) (k := 2) (f := (va_up (va_up (fun _ => none) 0 (some (b63 0))) 1 (some (b69 0)))) (by decide) a430 h430 rfl (by decide) hv.2 hv.1 rfl rfl (by decide) (by decide) dX11_init_192 (fun H locs G => ?_)
  have hBL := BL_put (q := 430) (e := .inl (cSt, 6, .inr (.inr (.inr (.inr (va_up (va_up (va_up (fun _ => none) 0 (some (b63 0))) 1 (some (b69 0))) 2 (some (b75 0)))))))) hBL (by decide +kernel)
  have h0 := (va_up_ne S (.inl (cSt, 6, .inr (.inr (.inr (.inr (va_up (va_up (va_up (fun _ => none) 0 (some (b63 0))) 1 (some (b69 0))) 2 (some (b75 0))))))) : va_E) (show 0 ≠ 430 by decide)).trans h0
  have h6 := (va_up_ne S (.inl (cSt, 6, .inr (.inr (.inr (.inr (va_up (va_up (va_up (fun _ => none) 0 (some (b63 0))) 1 (some (b69 0))) 2 (some (b75 0))))))) : va_E) (show 6 ≠ 430 by decide)).trans h6
  have h431 := (va_up_ne S (.inl (cSt, 6, .inr (.inr (.inr (.inr (va_up (va_up (va_up (fun _ => none) 0 (some (b63 0))) 1 (some (b69 0))) 2 (some (b75 0))))))) : va_E) (show 431 ≠ 430 by decide)).trans h431
  have h430 := va_up_self S 430 (.inl (cSt, 6, .inr (.inr (.inr (.inr (va_up (va_up (va_up (fun _ => none) 0 (some (b63 0))) 1 (some (b69 0))) 2 (some (b75 0))))))) : va_E)
  generalize va_up S 430 (.inl (cSt, 6, .inr (.inr (.inr (.inr (va_up (va_up (va_up (fun _ => none) 0 (some (b63 0))) 1 (some (b69 0))) 2 (some (b75 0)))))))) = S at G hBL h0 h6 h430 h431
  refine lv_iinc (v := 3) (lv' := [(1, .int 3), (0, .ref h)]) hx hb dX11_init_193 hl (k := 0) rfl (by decide +kernel) (by decide) rfl (fun ls hl => ?_)
  refine lv_goto (tgt := 174) hx hb dX11_init_196 (by decide) ?_
  refine lv_iload_n hx hb dX11_init_174 rfl (lv_at hl 0 rfl) ?_
  refine lv_bipush (v := 6) hx hb dX11_init_175 (by decide) ?_
  refine lv_icmp_ge (tgt := 199) hx hb dX11_init_177 (by decide) (fun c79 => absurd c79 (by decide +kernel)) (fun c79 => ?_)
  refine lv_aload_n hx hb dX11_init_180 rfl (lv_at hl 1 rfl) ?_
  refine n_getr E G 0 8 h (fs := [.ref (b2 0), .ref (b7 0), .ref (b12 0), .ref (b17 0), .ref (b22 0), .ref (b27 0), .ref (b32 0), .ref (b37 0), .ref q41, .ref q42, .ref q43, .ref q44, .ref (b46 0), .ref q50, .ref (b52 0), .ref (b57 0), .int 0, .int 0, .int 0]) (by decide) a0 h0 rfl (fun w h => .tail _ (iA_23 h)) (by decide) (.tail _ qA_666) rfl rfl dX11_init_181 ?_
  refine lv_iload_n hx hb dX11_init_184 rfl (lv_at hl 0 rfl) ?_
  refine n_new E G hA (ci := 8) (fs := [.int 0, .int 0, .int 0, .null, .null, .null, .null, .null, .null, .null, .null, .null]) (fun w h => .tail _ (iA_16 h)) tyX8 tyX8_ok (.tail _ qA_662) (.tail _ qA_663) (.tail _ qA_47) rfl (by decide) (Nat.le_of_ble_eq_true rfl) (Nat.le_of_ble_eq_true rfl) dX11_init_185 (fun q80 H G => ?_)
  refine lv_dup hx hb dX11_init_188 rfl ?_
  refine n_initN (N := 1116) E G hA hxs nX.moved hml (n_X8 l D cI cJ cZ cMic cSrc cSt cAI cAJ) ⟨va_cnB (host := "AcousticCamera") 0 hts (gaC qA_582) rfl rfl rfl (hxs.2.2.2.2.2 _ (List.mem_of_getElem? (i := 5) rfl)) (hts _ (.tail _ qA_47)) (by decide +kernel) ⟨Nat.le_of_ble_eq_true rfl, Nat.le_of_ble_eq_true rfl⟩, rfl, hts _ (.tail _ qA_683)⟩ (cat_hi (Nat.le_refl _)) (cat_hi (Nat.le_refl _)) hl.1 (lv_room (Nat.le_of_ble_eq_true rfl)) dX11_init_189 ⟨Nat.le_of_ble_eq_true rfl, Nat.le_of_ble_eq_true rfl⟩ (fun b81 T82 H locs hb83 hT84 G => ?_)
  subst hb83
  rw [cat_cat, cat_cat] at G
  have G : cG D (cat 1116 ad b81) 1210 A s.heap H locs (cat 1116 S T82) := G
  have h0 : cat 1116 S T82 0 = .inr (11, [.ref (b2 0), .ref (b7 0), .ref (b12 0), .ref (b17 0), .ref (b22 0), .ref (b27 0), .ref (b32 0), .ref (b37 0), .ref q41, .ref q42, .ref q43, .ref q44, .ref (b46 0), .ref q50, .ref (b52 0), .ref (b57 0), .int 0, .int 0, .int 0]) := (cat_lo (by decide)).trans h0
  have a0 := (cat_lo (N := 1116) (g := b81) (show 0 < 1116 by decide)).trans a0
  have h6 : cat 1116 S T82 6 = .inr (3, [.ref (b2 0), .int 0, .int 0, .int (-1)]) := (cat_lo (by decide)).trans h6
  have a6 := (cat_lo (N := 1116) (g := b81) (show 6 < 1116 by decide)).trans a6
  have h430 : cat 1116 S T82 430 = .inl (cSt, 6, .inr (.inr (.inr (.inr (va_up (va_up (va_up (fun _ => none) 0 (some (b63 0))) 1 (some (b69 0))) 2 (some (b75 0))))))) := (cat_lo (by decide)).trans h430
  have a430 := (cat_lo (N := 1116) (g := b81) (show 430 < 1116 by decide)).trans a430
  have h431 : cat 1116 S T82 431 = .inl (cSt, 2, .inr (.inr (.inr (.inr (fun _ => none))))) := (cat_lo (by decide)).trans h431
  have a431 := (cat_lo (N := 1116) (g := b81) (show 431 < 1116 by decide)).trans a431
  have hBL := BL_push (b := b81) (T := T82) hBL (N := 1116) (by decide +kernel) rfl hT84
  generalize cat 1116 ad b81 = ad at G hBL h0 a0 h6 a6 h430 a430 h431 a431
  generalize cat 1116 S T82 = S at G hBL h0 h6 h430 h431
  have hv := hBL 16 (by decide) 0 (by decide)
  refine n_astq E G 430 5 1116 (r := (RX8, TX8, 12)) (ci := 8) (vs := [.int 0, .int 0, .int 0, .ref (b81 1), .ref (b81 2), .ref (b81 3), .ref (b81 4), .ref (b81 5), .ref (b81 6), .ref (b81 7), .ref (b81 8), .ref (b81 51)]) (k := 3) (f := (va_up (va_up (va_up (fun _ => none) 0 (some (b63 0))) 1 (some (b69 0))) 2 (some (b75 0)))) (by decide) a430 h430 rfl (by decide) hv.2 hv.1 rfl rfl (by decide) (by decide) dX11_init_192 (fun H locs G => ?_)
  have hBL := BL_put (q := 430) (e := .inl (cSt, 6, .inr (.inr (.inr (.inr (va_up (va_up (va_up (va_up (fun _ => none) 0 (some (b63 0))) 1 (some (b69 0))) 2 (some (b75 0))) 3 (some (b81 0)))))))) hBL (by decide +kernel)
  have h0 := (va_up_ne S (.inl (cSt, 6, .inr (.inr (.inr (.inr (va_up (va_up (va_up (va_up (fun _ => none) 0 (some (b63 0))) 1 (some (b69 0))) 2 (some (b75 0))) 3 (some (b81 0))))))) : va_E) (show 0 ≠ 430 by decide)).trans h0
  have h6 := (va_up_ne S (.inl (cSt, 6, .inr (.inr (.inr (.inr (va_up (va_up (va_up (va_up (fun _ => none) 0 (some (b63 0))) 1 (some (b69 0))) 2 (some (b75 0))) 3 (some (b81 0))))))) : va_E) (show 6 ≠ 430 by decide)).trans h6
  have h431 := (va_up_ne S (.inl (cSt, 6, .inr (.inr (.inr (.inr (va_up (va_up (va_up (va_up (fun _ => none) 0 (some (b63 0))) 1 (some (b69 0))) 2 (some (b75 0))) 3 (some (b81 0))))))) : va_E) (show 431 ≠ 430 by decide)).trans h431
  have h430 := va_up_self S 430 (.inl (cSt, 6, .inr (.inr (.inr (.inr (va_up (va_up (va_up (va_up (fun _ => none) 0 (some (b63 0))) 1 (some (b69 0))) 2 (some (b75 0))) 3 (some (b81 0))))))) : va_E)
  generalize va_up S 430 (.inl (cSt, 6, .inr (.inr (.inr (.inr (va_up (va_up (va_up (va_up (fun _ => none) 0 (some (b63 0))) 1 (some (b69 0))) 2 (some (b75 0))) 3 (some (b81 0)))))))) = S at G hBL h0 h6 h430 h431
  refine lv_iinc (v := 4) (lv' := [(1, .int 4), (0, .ref h)]) hx hb dX11_init_193 hl (k := 0) rfl (by decide +kernel) (by decide) rfl (fun ls hl => ?_)
  refine lv_goto (tgt := 174) hx hb dX11_init_196 (by decide) ?_
  refine lv_iload_n hx hb dX11_init_174 rfl (lv_at hl 0 rfl) ?_
  refine lv_bipush (v := 6) hx hb dX11_init_175 (by decide) ?_
  refine lv_icmp_ge (tgt := 199) hx hb dX11_init_177 (by decide) (fun c85 => absurd c85 (by decide +kernel)) (fun c85 => ?_)
  refine lv_aload_n hx hb dX11_init_180 rfl (lv_at hl 1 rfl) ?_
  refine n_getr E G 0 8 h (fs := [.ref (b2 0), .ref (b7 0), .ref (b12 0), .ref (b17 0), .ref (b22 0), .ref (b27 0), .ref (b32 0), .ref (b37 0), .ref q41, .ref q42, .ref q43, .ref q44, .ref (b46 0), .ref q50, .ref (b52 0), .ref (b57 0), .int 0, .int 0, .int 0]) (by decide) a0 h0 rfl (fun w h => .tail _ (iA_23 h)) (by decide) (.tail _ qA_666) rfl rfl dX11_init_181 ?_
  refine lv_iload_n hx hb dX11_init_184 rfl (lv_at hl 0 rfl) ?_
  refine n_new E G hA (ci := 8) (fs := [.int 0, .int 0, .int 0, .null, .null, .null, .null, .null, .null, .null, .null, .null]) (fun w h => .tail _ (iA_16 h)) tyX8 tyX8_ok (.tail _ qA_662) (.tail _ qA_663) (.tail _ qA_47) rfl (by decide) (Nat.le_of_ble_eq_true rfl) (Nat.le_of_ble_eq_true rfl) dX11_init_185 (fun q86 H G => ?_)
  refine lv_dup hx hb dX11_init_188 rfl ?_
  refine n_initN (N := 1210) E G hA hxs nX.moved hml (n_X8 l D cI cJ cZ cMic cSrc cSt cAI cAJ) ⟨va_cnB (host := "AcousticCamera") 0 hts (gaC qA_582) rfl rfl rfl (hxs.2.2.2.2.2 _ (List.mem_of_getElem? (i := 5) rfl)) (hts _ (.tail _ qA_47)) (by decide +kernel) ⟨Nat.le_of_ble_eq_true rfl, Nat.le_of_ble_eq_true rfl⟩, rfl, hts _ (.tail _ qA_683)⟩ (cat_hi (Nat.le_refl _)) (cat_hi (Nat.le_refl _)) hl.1 (lv_room (Nat.le_of_ble_eq_true rfl)) dX11_init_189 ⟨Nat.le_of_ble_eq_true rfl, Nat.le_of_ble_eq_true rfl⟩ (fun b87 T88 H locs hb89 hT90 G => ?_)
  subst hb89
  rw [cat_cat, cat_cat] at G
  have G : cG D (cat 1210 ad b87) 1304 A s.heap H locs (cat 1210 S T88) := G
  have h0 : cat 1210 S T88 0 = .inr (11, [.ref (b2 0), .ref (b7 0), .ref (b12 0), .ref (b17 0), .ref (b22 0), .ref (b27 0), .ref (b32 0), .ref (b37 0), .ref q41, .ref q42, .ref q43, .ref q44, .ref (b46 0), .ref q50, .ref (b52 0), .ref (b57 0), .int 0, .int 0, .int 0]) := (cat_lo (by decide)).trans h0
  have a0 := (cat_lo (N := 1210) (g := b87) (show 0 < 1210 by decide)).trans a0
  have h6 : cat 1210 S T88 6 = .inr (3, [.ref (b2 0), .int 0, .int 0, .int (-1)]) := (cat_lo (by decide)).trans h6
  have a6 := (cat_lo (N := 1210) (g := b87) (show 6 < 1210 by decide)).trans a6
  have h430 : cat 1210 S T88 430 = .inl (cSt, 6, .inr (.inr (.inr (.inr (va_up (va_up (va_up (va_up (fun _ => none) 0 (some (b63 0))) 1 (some (b69 0))) 2 (some (b75 0))) 3 (some (b81 0))))))) := (cat_lo (by decide)).trans h430
  have a430 := (cat_lo (N := 1210) (g := b87) (show 430 < 1210 by decide)).trans a430
  have h431 : cat 1210 S T88 431 = .inl (cSt, 2, .inr (.inr (.inr (.inr (fun _ => none))))) := (cat_lo (by decide)).trans h431
  have a431 := (cat_lo (N := 1210) (g := b87) (show 431 < 1210 by decide)).trans a431
  have hBL := BL_push (b := b87) (T := T88) hBL (N := 1210) (by decide +kernel) rfl hT90
  generalize cat 1210 ad b87 = ad at G hBL h0 a0 h6 a6 h430 a430 h431 a431
  generalize cat 1210 S T88 = S at G hBL h0 h6 h430 h431
  have hv := hBL 17 (by decide) 0 (by decide)
  refine n_astq E G 430 5 1210 (r := (RX8, TX8, 12)) (ci := 8) (vs := [.int 0, .int 0, .int 0, .ref (b87 1), .ref (b87 2), .ref (b87 3), .ref (b87 4), .ref (b87 5), .ref (b87 6), .ref (b87 7), .ref (b87 8), .ref (b87 51)]) (k := 4) (f := (va_up (va_up (va_up (va_up (fun _ => none) 0 (some (b63 0))) 1 (some (b69 0))) 2 (some (b75 0))) 3 (some (b81 0)))) (by decide) a430 h430 rfl (by decide) hv.2 hv.1 rfl rfl (by decide) (by decide) dX11_init_192 (fun H locs G => ?_)
  have hBL := BL_put (q := 430) (e := .inl (cSt, 6, .inr (.inr (.inr (.inr (va_up (va_up (va_up (va_up (va_up (fun _ => none) 0 (some (b63 0))) 1 (some (b69 0))) 2 (some (b75 0))) 3 (some (b81 0))) 4 (some (b87 0)))))))) hBL (by decide +kernel)
  have h0 := (va_up_ne S (.inl (cSt, 6, .inr (.inr (.inr (.inr (va_up (va_up (va_up (va_up (va_up (fun _ => none) 0 (some (b63 0))) 1 (some (b69 0))) 2 (some (b75 0))) 3 (some (b81 0))) 4 (some (b87 0))))))) : va_E) (show 0 ≠ 430 by decide)).trans h0
  have h6 := (va_up_ne S (.inl (cSt, 6, .inr (.inr (.inr (.inr (va_up (va_up (va_up (va_up (va_up (fun _ => none) 0 (some (b63 0))) 1 (some (b69 0))) 2 (some (b75 0))) 3 (some (b81 0))) 4 (some (b87 0))))))) : va_E) (show 6 ≠ 430 by decide)).trans h6
  have h431 := (va_up_ne S (.inl (cSt, 6, .inr (.inr (.inr (.inr (va_up (va_up (va_up (va_up (va_up (fun _ => none) 0 (some (b63 0))) 1 (some (b69 0))) 2 (some (b75 0))) 3 (some (b81 0))) 4 (some (b87 0))))))) : va_E) (show 431 ≠ 430 by decide)).trans h431
  have h430 := va_up_self S 430 (.inl (cSt, 6, .inr (.inr (.inr (.inr (va_up (va_up (va_up (va_up (va_up (fun _ => none) 0 (some (b63 0))) 1 (some (b69 0))) 2 (some (b75 0))) 3 (some (b81 0))) 4 (some (b87 0))))))) : va_E)
  generalize va_up S 430 (.inl (cSt, 6, .inr (.inr (.inr (.inr (va_up (va_up (va_up (va_up (va_up (fun _ => none) 0 (some (b63 0))) 1 (some (b69 0))) 2 (some (b75 0))) 3 (some (b81 0))) 4 (some (b87 0)))))))) = S at G hBL h0 h6 h430 h431
  refine lv_iinc (v := 5) (lv' := [(1, .int 5), (0, .ref h)]) hx hb dX11_init_193 hl (k := 0) rfl (by decide +kernel) (by decide) rfl (fun ls hl => ?_)
  refine lv_goto (tgt := 174) hx hb dX11_init_196 (by decide) ?_
  refine lv_iload_n hx hb dX11_init_174 rfl (lv_at hl 0 rfl) ?_
  refine lv_bipush (v := 6) hx hb dX11_init_175 (by decide) ?_
  refine lv_icmp_ge (tgt := 199) hx hb dX11_init_177 (by decide) (fun c91 => absurd c91 (by decide +kernel)) (fun c91 => ?_)
  refine lv_aload_n hx hb dX11_init_180 rfl (lv_at hl 1 rfl) ?_
  refine n_getr E G 0 8 h (fs := [.ref (b2 0), .ref (b7 0), .ref (b12 0), .ref (b17 0), .ref (b22 0), .ref (b27 0), .ref (b32 0), .ref (b37 0), .ref q41, .ref q42, .ref q43, .ref q44, .ref (b46 0), .ref q50, .ref (b52 0), .ref (b57 0), .int 0, .int 0, .int 0]) (by decide) a0 h0 rfl (fun w h => .tail _ (iA_23 h)) (by decide) (.tail _ qA_666) rfl rfl dX11_init_181 ?_
  refine lv_iload_n hx hb dX11_init_184 rfl (lv_at hl 0 rfl) ?_
  refine n_new E G hA (ci := 8) (fs := [.int 0, .int 0, .int 0, .null, .null, .null, .null, .null, .null, .null, .null, .null]) (fun w h => .tail _ (iA_16 h)) tyX8 tyX8_ok (.tail _ qA_662) (.tail _ qA_663) (.tail _ qA_47) rfl (by decide) (Nat.le_of_ble_eq_true rfl) (Nat.le_of_ble_eq_true rfl) dX11_init_185 (fun q92 H G => ?_)
  refine lv_dup hx hb dX11_init_188 rfl ?_
  refine n_initN (N := 1304) E G hA hxs nX.moved hml (n_X8 l D cI cJ cZ cMic cSrc cSt cAI cAJ) ⟨va_cnB (host := "AcousticCamera") 0 hts (gaC qA_582) rfl rfl rfl (hxs.2.2.2.2.2 _ (List.mem_of_getElem? (i := 5) rfl)) (hts _ (.tail _ qA_47)) (by decide +kernel) ⟨Nat.le_of_ble_eq_true rfl, Nat.le_of_ble_eq_true rfl⟩, rfl, hts _ (.tail _ qA_683)⟩ (cat_hi (Nat.le_refl _)) (cat_hi (Nat.le_refl _)) hl.1 (lv_room (Nat.le_of_ble_eq_true rfl)) dX11_init_189 ⟨Nat.le_of_ble_eq_true rfl, Nat.le_of_ble_eq_true rfl⟩ (fun b93 T94 H locs hb95 hT96 G => ?_)
  subst hb95
  rw [cat_cat, cat_cat] at G
  have G : cG D (cat 1304 ad b93) 1398 A s.heap H locs (cat 1304 S T94) := G
  have h0 : cat 1304 S T94 0 = .inr (11, [.ref (b2 0), .ref (b7 0), .ref (b12 0), .ref (b17 0), .ref (b22 0), .ref (b27 0), .ref (b32 0), .ref (b37 0), .ref q41, .ref q42, .ref q43, .ref q44, .ref (b46 0), .ref q50, .ref (b52 0), .ref (b57 0), .int 0, .int 0, .int 0]) := (cat_lo (by decide)).trans h0
  have a0 := (cat_lo (N := 1304) (g := b93) (show 0 < 1304 by decide)).trans a0
  have h6 : cat 1304 S T94 6 = .inr (3, [.ref (b2 0), .int 0, .int 0, .int (-1)]) := (cat_lo (by decide)).trans h6
  have a6 := (cat_lo (N := 1304) (g := b93) (show 6 < 1304 by decide)).trans a6
  have h430 : cat 1304 S T94 430 = .inl (cSt, 6, .inr (.inr (.inr (.inr (va_up (va_up (va_up (va_up (va_up (fun _ => none) 0 (some (b63 0))) 1 (some (b69 0))) 2 (some (b75 0))) 3 (some (b81 0))) 4 (some (b87 0))))))) := (cat_lo (by decide)).trans h430
  have a430 := (cat_lo (N := 1304) (g := b93) (show 430 < 1304 by decide)).trans a430
  have h431 : cat 1304 S T94 431 = .inl (cSt, 2, .inr (.inr (.inr (.inr (fun _ => none))))) := (cat_lo (by decide)).trans h431
  have a431 := (cat_lo (N := 1304) (g := b93) (show 431 < 1304 by decide)).trans a431
  have hBL := BL_push (b := b93) (T := T94) hBL (N := 1304) (by decide +kernel) rfl hT96
  generalize cat 1304 ad b93 = ad at G hBL h0 a0 h6 a6 h430 a430 h431 a431
  generalize cat 1304 S T94 = S at G hBL h0 h6 h430 h431
  have hv := hBL 18 (by decide) 0 (by decide)
  refine n_astq E G 430 5 1304 (r := (RX8, TX8, 12)) (ci := 8) (vs := [.int 0, .int 0, .int 0, .ref (b93 1), .ref (b93 2), .ref (b93 3), .ref (b93 4), .ref (b93 5), .ref (b93 6), .ref (b93 7), .ref (b93 8), .ref (b93 51)]) (k := 5) (f := (va_up (va_up (va_up (va_up (va_up (fun _ => none) 0 (some (b63 0))) 1 (some (b69 0))) 2 (some (b75 0))) 3 (some (b81 0))) 4 (some (b87 0)))) (by decide) a430 h430 rfl (by decide) hv.2 hv.1 rfl rfl (by decide) (by decide) dX11_init_192 (fun H locs G => ?_)
  have hBL := BL_put (q := 430) (e := .inl (cSt, 6, .inr (.inr (.inr (.inr (va_up (va_up (va_up (va_up (va_up (va_up (fun _ => none) 0 (some (b63 0))) 1 (some (b69 0))) 2 (some (b75 0))) 3 (some (b81 0))) 4 (some (b87 0))) 5 (some (b93 0)))))))) hBL (by decide +kernel)
  have h0 := (va_up_ne S (.inl (cSt, 6, .inr (.inr (.inr (.inr (va_up (va_up (va_up (va_up (va_up (va_up (fun _ => none) 0 (some (b63 0))) 1 (some (b69 0))) 2 (some (b75 0))) 3 (some (b81 0))) 4 (some (b87 0))) 5 (some (b93 0))))))) : va_E) (show 0 ≠ 430 by decide)).trans h0
  have h6 := (va_up_ne S (.inl (cSt, 6, .inr (.inr (.inr (.inr (va_up (va_up (va_up (va_up (va_up (va_up (fun _ => none) 0 (some (b63 0))) 1 (some (b69 0))) 2 (some (b75 0))) 3 (some (b81 0))) 4 (some (b87 0))) 5 (some (b93 0))))))) : va_E) (show 6 ≠ 430 by decide)).trans h6
  have h431 := (va_up_ne S (.inl (cSt, 6, .inr (.inr (.inr (.inr (va_up (va_up (va_up (va_up (va_up (va_up (fun _ => none) 0 (some (b63 0))) 1 (some (b69 0))) 2 (some (b75 0))) 3 (some (b81 0))) 4 (some (b87 0))) 5 (some (b93 0))))))) : va_E) (show 431 ≠ 430 by decide)).trans h431
  have h430 := va_up_self S 430 (.inl (cSt, 6, .inr (.inr (.inr (.inr (va_up (va_up (va_up (va_up (va_up (va_up (fun _ => none) 0 (some (b63 0))) 1 (some (b69 0))) 2 (some (b75 0))) 3 (some (b81 0))) 4 (some (b87 0))) 5 (some (b93 0))))))) : va_E)
  generalize va_up S 430 (.inl (cSt, 6, .inr (.inr (.inr (.inr (va_up (va_up (va_up (va_up (va_up (va_up (fun _ => none) 0 (some (b63 0))) 1 (some (b69 0))) 2 (some (b75 0))) 3 (some (b81 0))) 4 (some (b87 0))) 5 (some (b93 0)))))))) = S at G hBL h0 h6 h430 h431
  refine lv_iinc (v := 6) (lv' := [(1, .int 6), (0, .ref h)]) hx hb dX11_init_193 hl (k := 0) rfl (by decide +kernel) (by decide) rfl (fun ls hl => ?_)
  refine lv_goto (tgt := 174) hx hb dX11_init_196 (by decide) ?_
  refine lv_iload_n hx hb dX11_init_174 rfl (lv_at hl 0 rfl) ?_
  refine lv_bipush (v := 6) hx hb dX11_init_175 (by decide) ?_
  refine lv_icmp_ge (tgt := 199) hx hb dX11_init_177 (by decide) (fun c97 => ?_) (fun c97 => absurd (by decide +kernel) c97)
  refine lv_iconst (v := 0) hx hb dX11_init_199 (by decide) ?_
  refine lv_istore_n (lv' := [(1, .int 0), (0, .ref h)]) hx hb dX11_init_200 rfl hl (by decide) rfl (fun ls hl => ?_)
  refine lv_iload_n hx hb dX11_init_201 rfl (lv_at hl 0 rfl) ?_
  refine lv_iconst (v := 2) hx hb dX11_init_202 (by decide) ?_
  refine lv_icmp_ge (tgt := 225) hx hb dX11_init_203 (by decide) (fun c98 => absurd c98 (by decide +kernel)) (fun c98 => ?_)
  refine lv_aload_n hx hb dX11_init_206 rfl (lv_at hl 1 rfl) ?_
  refine n_getr E G 0 9 h (fs := [.ref (b2 0), .ref (b7 0), .ref (b12 0), .ref (b17 0), .ref (b22 0), .ref (b27 0), .ref (b32 0), .ref (b37 0), .ref q41, .ref q42, .ref q43, .ref q44, .ref (b46 0), .ref q50, .ref (b52 0), .ref (b57 0), .int 0, .int 0, .int 0]) (by decide) a0 h0 rfl (fun w h => .tail _ (iA_23 h)) (by decide) (.tail _ qA_667) rfl rfl dX11_init_207 ?_
  refine lv_iload_n hx hb dX11_init_210 rfl (lv_at hl 0 rfl) ?_
  refine n_new E G hA (ci := 8) (fs := [.int 0, .int 0, .int 0, .null, .null, .null, .null, .null, .null, .null, .null, .null]) (fun w h => .tail _ (iA_16 h)) tyX8 tyX8_ok (.tail _ qA_662) (.tail _ qA_663) (.tail _ qA_47) rfl (by decide) (Nat.le_of_ble_eq_true rfl) (Nat.le_of_ble_eq_true rfl) dX11_init_211 (fun q99 H G => ?_)
  refine lv_dup hx hb dX11_init_214 rfl ?_
  refine n_initN (N := 1398) E G hA hxs nX.moved hml (n_X8 l D cI cJ cZ cMic cSrc cSt cAI cAJ) ⟨va_cnB (host := "AcousticCamera") 0 hts (gaC qA_582) rfl rfl rfl (hxs.2.2.2.2.2 _ (List.mem_of_getElem? (i := 5) rfl)) (hts _ (.tail _ qA_47)) (by decide +kernel) ⟨Nat.le_of_ble_eq_true rfl, Nat.le_of_ble_eq_true rfl⟩, rfl, hts _ (.tail _ qA_683)⟩ (cat_hi (Nat.le_refl _)) (cat_hi (Nat.le_refl _)) hl.1 (lv_room (Nat.le_of_ble_eq_true rfl)) dX11_init_215 ⟨Nat.le_of_ble_eq_true rfl, Nat.le_of_ble_eq_true rfl⟩ (fun b100 T101 H locs hb102 hT103 G => ?_)
  subst hb102
  rw [cat_cat, cat_cat] at G
  have G : cG D (cat 1398 ad b100) 1492 A s.heap H locs (cat 1398 S T101) := G
  have h0 : cat 1398 S T101 0 = .inr (11, [.ref (b2 0), .ref (b7 0), .ref (b12 0), .ref (b17 0), .ref (b22 0), .ref (b27 0), .ref (b32 0), .ref (b37 0), .ref q41, .ref q42, .ref q43, .ref q44, .ref (b46 0), .ref q50, .ref (b52 0), .ref (b57 0), .int 0, .int 0, .int 0]) := (cat_lo (by decide)).trans h0
  have a0 := (cat_lo (N := 1398) (g := b100) (show 0 < 1398 by decide)).trans a0
  have h6 : cat 1398 S T101 6 = .inr (3, [.ref (b2 0), .int 0, .int 0, .int (-1)]) := (cat_lo (by decide)).trans h6
  have a6 := (cat_lo (N := 1398) (g := b100) (show 6 < 1398 by decide)).trans a6
  have h430 : cat 1398 S T101 430 = .inl (cSt, 6, .inr (.inr (.inr (.inr (va_up (va_up (va_up (va_up (va_up (va_up (fun _ => none) 0 (some (b63 0))) 1 (some (b69 0))) 2 (some (b75 0))) 3 (some (b81 0))) 4 (some (b87 0))) 5 (some (b93 0))))))) := (cat_lo (by decide)).trans h430
  have a430 := (cat_lo (N := 1398) (g := b100) (show 430 < 1398 by decide)).trans a430
  have h431 : cat 1398 S T101 431 = .inl (cSt, 2, .inr (.inr (.inr (.inr (fun _ => none))))) := (cat_lo (by decide)).trans h431
  have a431 := (cat_lo (N := 1398) (g := b100) (show 431 < 1398 by decide)).trans a431
  have hBL := BL_push (b := b100) (T := T101) hBL (N := 1398) (by decide +kernel) rfl hT103
  generalize cat 1398 ad b100 = ad at G hBL h0 a0 h6 a6 h430 a430 h431 a431
  generalize cat 1398 S T101 = S at G hBL h0 h6 h430 h431
  have hv := hBL 19 (by decide) 0 (by decide)
  refine n_astq E G 431 5 1398 (r := (RX8, TX8, 12)) (ci := 8) (vs := [.int 0, .int 0, .int 0, .ref (b100 1), .ref (b100 2), .ref (b100 3), .ref (b100 4), .ref (b100 5), .ref (b100 6), .ref (b100 7), .ref (b100 8), .ref (b100 51)]) (k := 0) (f := (fun _ => none)) (by decide) a431 h431 rfl (by decide) hv.2 hv.1 rfl rfl (by decide) (by decide) dX11_init_218 (fun H locs G => ?_)
  have hBL := BL_put (q := 431) (e := .inl (cSt, 2, .inr (.inr (.inr (.inr (va_up (fun _ => none) 0 (some (b100 0)))))))) hBL (by decide +kernel)
  have h0 := (va_up_ne S (.inl (cSt, 2, .inr (.inr (.inr (.inr (va_up (fun _ => none) 0 (some (b100 0))))))) : va_E) (show 0 ≠ 431 by decide)).trans h0
  have h6 := (va_up_ne S (.inl (cSt, 2, .inr (.inr (.inr (.inr (va_up (fun _ => none) 0 (some (b100 0))))))) : va_E) (show 6 ≠ 431 by decide)).trans h6
  have h430 := (va_up_ne S (.inl (cSt, 2, .inr (.inr (.inr (.inr (va_up (fun _ => none) 0 (some (b100 0))))))) : va_E) (show 430 ≠ 431 by decide)).trans h430
  have h431 := va_up_self S 431 (.inl (cSt, 2, .inr (.inr (.inr (.inr (va_up (fun _ => none) 0 (some (b100 0))))))) : va_E)
  generalize va_up S 431 (.inl (cSt, 2, .inr (.inr (.inr (.inr (va_up (fun _ => none) 0 (some (b100 0)))))))) = S at G hBL h0 h6 h430 h431
  refine lv_iinc (v := 1) (lv' := [(1, .int 1), (0, .ref h)]) hx hb dX11_init_219 hl (k := 0) rfl (by decide +kernel) (by decide) rfl (fun ls hl => ?_)
  refine lv_goto (tgt := 201) hx hb dX11_init_222 (by decide) ?_
  refine lv_iload_n hx hb dX11_init_201 rfl (lv_at hl 0 rfl) ?_
  refine lv_iconst (v := 2) hx hb dX11_init_202 (by decide) ?_
  refine lv_icmp_ge (tgt := 225) hx hb dX11_init_203 (by decide) (fun c104 => absurd c104 (by decide +kernel)) (fun c104 => ?_)
  refine lv_aload_n hx hb dX11_init_206 rfl (lv_at hl 1 rfl) ?_
  refine n_getr E G 0 9 h (fs := [.ref (b2 0), .ref (b7 0), .ref (b12 0), .ref (b17 0), .ref (b22 0), .ref (b27 0), .ref (b32 0), .ref (b37 0), .ref q41, .ref q42, .ref q43, .ref q44, .ref (b46 0), .ref q50, .ref (b52 0), .ref (b57 0), .int 0, .int 0, .int 0]) (by decide) a0 h0 rfl (fun w h => .tail _ (iA_23 h)) (by decide) (.tail _ qA_667) rfl rfl dX11_init_207 ?_
  refine lv_iload_n hx hb dX11_init_210 rfl (lv_at hl 0 rfl) ?_
  refine n_new E G hA (ci := 8) (fs := [.int 0, .int 0, .int 0, .null, .null, .null, .null, .null, .null, .null, .null, .null]) (fun w h => .tail _ (iA_16 h)) tyX8 tyX8_ok (.tail _ qA_662) (.tail _ qA_663) (.tail _ qA_47) rfl (by decide) (Nat.le_of_ble_eq_true rfl) (Nat.le_of_ble_eq_true rfl) dX11_init_211 (fun q105 H G => ?_)
  refine lv_dup hx hb dX11_init_214 rfl ?_
  refine n_initN (N := 1492) E G hA hxs nX.moved hml (n_X8 l D cI cJ cZ cMic cSrc cSt cAI cAJ) ⟨va_cnB (host := "AcousticCamera") 0 hts (gaC qA_582) rfl rfl rfl (hxs.2.2.2.2.2 _ (List.mem_of_getElem? (i := 5) rfl)) (hts _ (.tail _ qA_47)) (by decide +kernel) ⟨Nat.le_of_ble_eq_true rfl, Nat.le_of_ble_eq_true rfl⟩, rfl, hts _ (.tail _ qA_683)⟩ (cat_hi (Nat.le_refl _)) (cat_hi (Nat.le_refl _)) hl.1 (lv_room (Nat.le_of_ble_eq_true rfl)) dX11_init_215 ⟨Nat.le_of_ble_eq_true rfl, Nat.le_of_ble_eq_true rfl⟩ (fun b106 T107 H locs hb108 hT109 G => ?_)
  subst hb108
  rw [cat_cat, cat_cat] at G
  have G : cG D (cat 1492 ad b106) 1586 A s.heap H locs (cat 1492 S T107) := G
  have h0 : cat 1492 S T107 0 = .inr (11, [.ref (b2 0), .ref (b7 0), .ref (b12 0), .ref (b17 0), .ref (b22 0), .ref (b27 0), .ref (b32 0), .ref (b37 0), .ref q41, .ref q42, .ref q43, .ref q44, .ref (b46 0), .ref q50, .ref (b52 0), .ref (b57 0), .int 0, .int 0, .int 0]) := (cat_lo (by decide)).trans h0
  have a0 := (cat_lo (N := 1492) (g := b106) (show 0 < 1492 by decide)).trans a0
  have h6 : cat 1492 S T107 6 = .inr (3, [.ref (b2 0), .int 0, .int 0, .int (-1)]) := (cat_lo (by decide)).trans h6
  have a6 := (cat_lo (N := 1492) (g := b106) (show 6 < 1492 by decide)).trans a6
  have h430 : cat 1492 S T107 430 = .inl (cSt, 6, .inr (.inr (.inr (.inr (va_up (va_up (va_up (va_up (va_up (va_up (fun _ => none) 0 (some (b63 0))) 1 (some (b69 0))) 2 (some (b75 0))) 3 (some (b81 0))) 4 (some (b87 0))) 5 (some (b93 0))))))) := (cat_lo (by decide)).trans h430
  have a430 := (cat_lo (N := 1492) (g := b106) (show 430 < 1492 by decide)).trans a430
  have h431 : cat 1492 S T107 431 = .inl (cSt, 2, .inr (.inr (.inr (.inr (va_up (fun _ => none) 0 (some (b100 0))))))) := (cat_lo (by decide)).trans h431
  have a431 := (cat_lo (N := 1492) (g := b106) (show 431 < 1492 by decide)).trans a431
  have hBL := BL_push (b := b106) (T := T107) hBL (N := 1492) (by decide +kernel) rfl hT109
  generalize cat 1492 ad b106 = ad at G hBL h0 a0 h6 a6 h430 a430 h431 a431
  generalize cat 1492 S T107 = S at G hBL h0 h6 h430 h431
  have hv := hBL 20 (by decide) 0 (by decide)
  refine n_astq E G 431 5 1492 (r := (RX8, TX8, 12)) (ci := 8) (vs := [.int 0, .int 0, .int 0, .ref (b106 1), .ref (b106 2), .ref (b106 3), .ref (b106 4), .ref (b106 5), .ref (b106 6), .ref (b106 7), .ref (b106 8), .ref (b106 51)]) (k := 1) (f := (va_up (fun _ => none) 0 (some (b100 0)))) (by decide) a431 h431 rfl (by decide) hv.2 hv.1 rfl rfl (by decide) (by decide) dX11_init_218 (fun H locs G => ?_)
  have hBL := BL_put (q := 431) (e := .inl (cSt, 2, .inr (.inr (.inr (.inr (va_up (va_up (fun _ => none) 0 (some (b100 0))) 1 (some (b106 0)))))))) hBL (by decide +kernel)
  have h0 := (va_up_ne S (.inl (cSt, 2, .inr (.inr (.inr (.inr (va_up (va_up (fun _ => none) 0 (some (b100 0))) 1 (some (b106 0))))))) : va_E) (show 0 ≠ 431 by decide)).trans h0
  have h6 := (va_up_ne S (.inl (cSt, 2, .inr (.inr (.inr (.inr (va_up (va_up (fun _ => none) 0 (some (b100 0))) 1 (some (b106 0))))))) : va_E) (show 6 ≠ 431 by decide)).trans h6
  have h430 := (va_up_ne S (.inl (cSt, 2, .inr (.inr (.inr (.inr (va_up (va_up (fun _ => none) 0 (some (b100 0))) 1 (some (b106 0))))))) : va_E) (show 430 ≠ 431 by decide)).trans h430
  have h431 := va_up_self S 431 (.inl (cSt, 2, .inr (.inr (.inr (.inr (va_up (va_up (fun _ => none) 0 (some (b100 0))) 1 (some (b106 0))))))) : va_E)
  generalize va_up S 431 (.inl (cSt, 2, .inr (.inr (.inr (.inr (va_up (va_up (fun _ => none) 0 (some (b100 0))) 1 (some (b106 0)))))))) = S at G hBL h0 h6 h430 h431
  refine lv_iinc (v := 2) (lv' := [(1, .int 2), (0, .ref h)]) hx hb dX11_init_219 hl (k := 0) rfl (by decide +kernel) (by decide) rfl (fun ls hl => ?_)
  refine lv_goto (tgt := 201) hx hb dX11_init_222 (by decide) ?_
  refine lv_iload_n hx hb dX11_init_201 rfl (lv_at hl 0 rfl) ?_
  refine lv_iconst (v := 2) hx hb dX11_init_202 (by decide) ?_
  refine lv_icmp_ge (tgt := 225) hx hb dX11_init_203 (by decide) (fun c110 => ?_) (fun c110 => absurd (by decide +kernel) c110)
  refine W.widen (k := 1585) (n := 44639) (Nat.le_of_ble_eq_true rfl) (Nat.le_of_ble_eq_true rfl) ?_
  have e1 : ad 1 = (b2 0) := (hBL 0 (by decide) 0 (by decide)).2
  have e7 : ad 7 = (b12 0) := (hBL 1 (by decide) 0 (by decide)).2
  have e22 : ad 22 = (b17 0) := (hBL 2 (by decide) 0 (by decide)).2
  have e66 : ad 66 = (b22 0) := (hBL 3 (by decide) 0 (by decide)).2
  have e154 : ad 154 = (b27 0) := (hBL 4 (by decide) 0 (by decide)).2
  have e242 : ad 242 = (b32 0) := (hBL 5 (by decide) 0 (by decide)).2
  have e336 : ad 336 = (b37 0) := (hBL 6 (by decide) 0 (by decide)).2
  have e432 : ad 432 = q43 := (hBL 7 (by decide) 0 (by decide)).2
  have e433 : ad 433 = q44 := (hBL 8 (by decide) 0 (by decide)).2
  have e434 : ad 434 = (b46 0) := (hBL 9 (by decide) 0 (by decide)).2
  have e477 : ad 477 = q50 := (hBL 10 (by decide) 0 (by decide)).2
  have e478 : ad 478 = (b52 0) := (hBL 11 (by decide) 0 (by decide)).2
  have e656 : ad 656 = (b57 0) := (hBL 12 (by decide) 0 (by decide)).2
  have e834 : ad 834 = (b63 0) := (hBL 13 (by decide) 0 (by decide)).2
  have e928 : ad 928 = (b69 0) := (hBL 14 (by decide) 0 (by decide)).2
  have e1022 : ad 1022 = (b75 0) := (hBL 15 (by decide) 0 (by decide)).2
  have e1116 : ad 1116 = (b81 0) := (hBL 16 (by decide) 0 (by decide)).2
  have e1210 : ad 1210 = (b87 0) := (hBL 17 (by decide) 0 (by decide)).2
  have e1304 : ad 1304 = (b93 0) := (hBL 18 (by decide) 0 (by decide)).2
  have e1398 : ad 1398 = (b100 0) := (hBL 19 (by decide) 0 (by decide)).2
  have e1492 : ad 1492 = (b106 0) := (hBL 20 (by decide) 0 (by decide)).2
  have p0 : S 0 = iX11_0 cI cJ cZ cMic cSrc cSt cAI cAJ ad := by
    unfold iX11_0
    rw [e1, e7, e22, e66, e154, e242, e336, e432, e433, e434, e477, e478, e656, a6, a430, a431]
    exact h0
  have p6 : S 6 = iX11_6 cI cJ cZ cMic cSrc cSt cAI cAJ ad := by
    unfold iX11_6
    rw [e1]
    exact h6
  have p430 : S 430 = iX11_430 cI cJ cZ cMic cSrc cSt cAI cAJ ad := by
    unfold iX11_430
    rw [e834, e928, e1022, e1116, e1210, e1304]
    exact h430
  have p431 : S 431 = iX11_431 cI cJ cZ cMic cSrc cSt cAI cAJ ad := by
    unfold iX11_431
    rw [e1398, e1492]
    exact h431
  exact W.vret hx hb hr (fun t ht hW => ⟨⟨(ad, S), rfl, ⟨a0, p0, p6, p430, p431, ⟨_, hBL⟩⟩, by rw [ht]; exact G.1, va_K.moved hW.alike hK, G.2.1⟩, G.2.2.F ht⟩) G.2.2.2.2 dX11_init_225
end
section
/-! 08a.lt.lean.txt -/
/-- the law's table, piece by piece -/
def t_sub : Nat → List Cond
  | 0 => k2_sels lw_privs
  | 1 => tables_1_1
  | 2 => tables_1_2
  | 3 => tables_1_3
  | 4 => tables_1_4
  | 5 => tables_1_5
  | 6 => tables_1_6
  | 7 => tables_1_7
  | 8 => tables_1_8
  | 9 => tables_1_9
  | 10 => tables_1_10
  | _ => []
theorem t_up (k : Nat) {w : Cond} (h : w ∈ t_sub k) : w ∈ lw_tbl := by
  match k with
  | 0 => exact List.mem_append_left _ h
  | 1 => exact List.mem_append_right _ (List.mem_append_left _ h)
  | 2 => exact List.mem_append_right _ (List.mem_append_right _ (List.mem_append_left _ h))
  | 3 => exact List.mem_append_right _ (List.mem_append_right _ (List.mem_append_right _ (List.mem_append_left _ h)))
  | 4 => exact List.mem_append_right _ (List.mem_append_right _ (List.mem_append_right _ (List.mem_append_right _ (List.mem_append_left _ h))))
  | 5 => exact List.mem_append_right _ (List.mem_append_right _ (List.mem_append_right _ (List.mem_append_right _ (List.mem_append_right _ (List.mem_append_left _ h)))))
  | 6 => exact List.mem_append_right _ (List.mem_append_right _ (List.mem_append_right _ (List.mem_append_right _ (List.mem_append_right _ (List.mem_append_right _ (List.mem_append_left _ h))))))
  | 7 => exact List.mem_append_right _ (List.mem_append_right _ (List.mem_append_right _ (List.mem_append_right _ (List.mem_append_right _ (List.mem_append_right _ (List.mem_append_right _ (List.mem_append_left _ h)))))))
  | 8 => exact List.mem_append_right _ (List.mem_append_right _ (List.mem_append_right _ (List.mem_append_right _ (List.mem_append_right _ (List.mem_append_right _ (List.mem_append_right _ (List.mem_append_right _ (List.mem_append_left _ h))))))))
  | 9 => exact List.mem_append_right _ (List.mem_append_right _ (List.mem_append_right _ (List.mem_append_right _ (List.mem_append_right _ (List.mem_append_right _ (List.mem_append_right _ (List.mem_append_right _ (List.mem_append_right _ (List.mem_append_left _ h)))))))))
  | 10 => exact List.mem_append_right _ (List.mem_append_right _ (List.mem_append_right _ (List.mem_append_right _ (List.mem_append_right _ (List.mem_append_right _ (List.mem_append_right _ (List.mem_append_right _ (List.mem_append_right _ (List.mem_append_right _ (h))))))))))
  | (_ + 11) => exact absurd h List.not_mem_nil
def t_chk : List Cond → List (Nat × Nat) → Bool
  | [], _ => true
  | w :: ws, a :: as => decide ((t_sub a.1)[a.2]? = some w) && t_chk ws as
  | _ :: _, [] => false
theorem t_of : ∀ (ws : List Cond) (as : List (Nat × Nat)), t_chk ws as = true → ∀ w ∈ ws, w ∈ lw_tbl
  | [], _, _, w, hw => absurd hw List.not_mem_nil
  | v :: ws, a :: as, h, w, hw => by
    have h2 : (t_sub a.1)[a.2]? = some v ∧ t_chk ws as = true := by
      have h3 : (decide ((t_sub a.1)[a.2]? = some v) && t_chk ws as) = true := h
      rw [Bool.and_eq_true, decide_eq_true_eq] at h3
      exact h3
    rcases List.mem_cons.mp hw with rfl | hw
    · exact t_up a.1 (List.mem_of_getElem? h2.1)
    · exact t_of ws as h2.2 w hw
  | _ :: _, [], h, _, _ => absurd h (fun h => Bool.noConfusion h)
theorem tw_nil (as : List (Nat × Nat)) : ∀ w ∈ ([] : List Cond), w ∈ lw_tbl := fun w hw => absurd hw List.not_mem_nil
theorem t_cns {v : Cond} {ws : List Cond} (k i : Nat) (e : (t_sub k)[i]? = some v) (h : ∀ w ∈ ws, w ∈ lw_tbl) : ∀ w ∈ v :: ws, w ∈ lw_tbl := by
  intro w hw
  rcases List.mem_cons.mp hw with rfl | hw
  · exact t_up k (List.mem_of_getElem? e)
  · exact h w hw
def t_pick (as : List (Nat × Nat)) : List Cond := as.filterMap (fun a => (t_sub a.1)[a.2]?)
theorem t_in {ws : List Cond} (as : List (Nat × Nat)) (h : ws.all (fun w => decide (w ∈ t_pick as)) = true) : ∀ w ∈ ws, w ∈ lw_tbl := by
  intro w hw
  have h1 := List.all_eq_true.mp h w hw
  rw [decide_eq_true_eq] at h1
  obtain ⟨a, -, ha⟩ := List.mem_filterMap.mp h1
  exact t_up a.1 (List.mem_of_getElem? ha)
theorem tA_0 : ∀ w ∈ wsA_0, w ∈ lw_tbl := t_cns 1 158 rfl (t_cns 1 159 rfl (t_cns 1 34 rfl (t_cns 1 35 rfl (t_cns 1 160 rfl (t_cns 1 161 rfl (t_cns 1 7 rfl (t_cns 1 184 rfl (t_cns 1 162 rfl (t_cns 1 163 rfl (t_cns 1 164 rfl (t_cns 1 165 rfl (t_cns 1 166 rfl (t_cns 1 183 rfl (t_cns 1 172 rfl (t_cns 1 174 rfl (t_cns 1 168 rfl (t_cns 1 169 rfl (t_cns 1 8 rfl (t_cns 1 170 rfl (t_cns 1 171 rfl (t_cns 6 174 rfl (t_cns 2 154 rfl (t_cns 2 74 rfl (t_cns 6 175 rfl (t_cns 4 220 rfl (t_cns 4 221 rfl (t_cns 4 222 rfl (t_cns 6 176 rfl (t_cns 6 178 rfl (t_cns 0 41 rfl (t_cns 1 6 rfl (t_cns 6 179 rfl (t_cns 2 191 rfl (t_cns 6 180 rfl (t_cns 4 141 rfl (t_cns 4 142 rfl (t_cns 1 12 rfl (t_cns 4 143 rfl (t_cns 2 66 rfl (t_cns 2 70 rfl (t_cns 6 181 rfl (t_cns 6 182 rfl (t_cns 6 183 rfl (t_cns 6 184 rfl (t_cns 5 200 rfl (t_cns 5 201 rfl (t_cns 1 10 rfl (t_cns 5 202 rfl (t_cns 5 138 rfl (t_cns 4 235 rfl (t_cns 4 236 rfl (t_cns 2 14 rfl (t_cns 5 203 rfl (t_cns 5 147 rfl (t_cns 5 148 rfl (t_cns 5 149 rfl (t_cns 1 228 rfl (t_cns 5 132 rfl (t_cns 5 137 rfl (t_cns 5 129 rfl (t_cns 5 130 rfl (t_cns 5 131 rfl (t_cns 1 227 rfl (t_cns 1 232 rfl (t_cns 5 204 rfl (t_cns 5 3 rfl (t_cns 5 4 rfl (t_cns 5 5 rfl (t_cns 5 205 rfl (t_cns 5 170 rfl (t_cns 5 171 rfl (t_cns 5 172 rfl (t_cns 2 11 rfl (t_cns 1 175 rfl (t_cns 1 173 rfl (t_cns 5 173 rfl (t_cns 5 174 rfl (t_cns 5 16 rfl (t_cns 5 17 rfl (t_cns 5 18 rfl (t_cns 5 10 rfl (t_cns 5 175 rfl (t_cns 5 177 rfl (t_cns 0 35 rfl (t_cns 5 178 rfl (t_cns 1 234 rfl (t_cns 5 179 rfl (t_cns 4 232 rfl (t_cns 4 233 rfl (t_cns 5 180 rfl (t_cns 5 7 rfl (t_cns 5 8 rfl (t_cns 5 9 rfl (t_cns 5 11 rfl (t_cns 5 12 rfl (t_cns 5 13 rfl (t_cns 5 14 rfl (t_cns 5 15 rfl (t_cns 5 206 rfl ((tw_nil [])))))))))))))))))))))))))))))))))))))))))))))))))))))))))))))))))))))))))))))))))))))))))))))))))))))
theorem tA_1 : ∀ w ∈ wsA_1, w ∈ lw_tbl := t_cns 5 207 rfl (t_cns 5 208 rfl (t_cns 5 209 rfl (t_cns 5 6 rfl (t_cns 5 210 rfl (t_cns 5 211 rfl (t_cns 5 212 rfl (t_cns 5 213 rfl (t_cns 5 214 rfl (t_cns 5 215 rfl (t_cns 1 8 rfl (t_cns 5 216 rfl (t_cns 5 217 rfl (t_cns 5 218 rfl (t_cns 5 219 rfl (t_cns 6 185 rfl (t_cns 5 221 rfl (t_cns 5 222 rfl (t_cns 5 223 rfl (t_cns 5 224 rfl (t_cns 5 225 rfl (t_cns 5 226 rfl (t_cns 5 227 rfl (t_cns 5 228 rfl (t_cns 5 229 rfl (t_cns 1 26 rfl (t_cns 5 230 rfl (t_cns 6 203 rfl (t_cns 2 137 rfl (t_cns 6 205 rfl (t_cns 4 164 rfl (t_cns 1 1 rfl (t_cns 4 165 rfl (t_cns 6 206 rfl (t_cns 5 236 rfl (t_cns 5 237 rfl (t_cns 5 238 rfl (t_cns 2 83 rfl (t_cns 5 239 rfl (t_cns 6 0 rfl (t_cns 4 148 rfl (t_cns 4 149 rfl (t_cns 4 150 rfl (t_cns 4 151 rfl (t_cns 4 153 rfl (t_cns 4 154 rfl (t_cns 4 159 rfl (t_cns 4 160 rfl (t_cns 4 161 rfl (t_cns 4 162 rfl (t_cns 6 207 rfl (t_cns 6 7 rfl (t_cns 6 8 rfl (t_cns 6 9 rfl (t_cns 6 211 rfl (t_cns 2 57 rfl (t_cns 2 58 rfl (t_cns 1 67 rfl (t_cns 2 73 rfl (t_cns 2 59 rfl (t_cns 2 77 rfl (t_cns 3 191 rfl (t_cns 2 80 rfl (t_cns 4 74 rfl (t_cns 4 147 rfl (t_cns 2 61 rfl (t_cns 2 65 rfl (t_cns 4 158 rfl (t_cns 2 63 rfl (t_cns 2 109 rfl (t_cns 2 110 rfl (t_cns 1 72 rfl (t_cns 1 73 rfl (t_cns 1 78 rfl (t_cns 1 74 rfl (t_cns 3 167 rfl (t_cns 1 75 rfl (t_cns 1 52 rfl (t_cns 2 148 rfl (t_cns 2 155 rfl (t_cns 2 67 rfl (t_cns 1 76 rfl (t_cns 3 168 rfl (t_cns 3 169 rfl (t_cns 3 170 rfl (t_cns 1 2 rfl (t_cns 3 171 rfl (t_cns 1 53 rfl (t_cns 3 172 rfl (t_cns 3 174 rfl (t_cns 0 1 rfl (t_cns 3 175 rfl (t_cns 1 42 rfl (t_cns 3 176 rfl (t_cns 3 178 rfl (t_cns 0 2 rfl (t_cns 3 179 rfl (t_cns 3 180 rfl (t_cns 3 182 rfl (t_cns 0 3 rfl ((tw_nil [])))))))))))))))))))))))))))))))))))))))))))))))))))))))))))))))))))))))))))))))))))))))))))))))))))))
theorem tA_2 : ∀ w ∈ wsA_2, w ∈ lw_tbl := t_cns 3 183 rfl (t_cns 1 46 rfl (t_cns 1 48 rfl (t_cns 1 50 rfl (t_cns 3 184 rfl (t_cns 3 185 rfl (t_cns 3 186 rfl (t_cns 1 11 rfl (t_cns 3 187 rfl (t_cns 2 152 rfl (t_cns 2 147 rfl (t_cns 2 164 rfl (t_cns 2 173 rfl (t_cns 2 176 rfl (t_cns 2 181 rfl (t_cns 2 186 rfl (t_cns 3 188 rfl (t_cns 3 189 rfl (t_cns 3 190 rfl (t_cns 3 192 rfl (t_cns 3 194 rfl (t_cns 0 4 rfl (t_cns 1 3 rfl (t_cns 3 195 rfl (t_cns 2 132 rfl (t_cns 2 134 rfl (t_cns 2 139 rfl (t_cns 2 141 rfl (t_cns 3 197 rfl (t_cns 3 199 rfl (t_cns 0 5 rfl (t_cns 3 200 rfl (t_cns 3 201 rfl (t_cns 3 203 rfl (t_cns 0 6 rfl (t_cns 3 204 rfl (t_cns 1 49 rfl (t_cns 1 51 rfl (t_cns 1 43 rfl (t_cns 3 205 rfl (t_cns 3 207 rfl (t_cns 0 7 rfl (t_cns 3 208 rfl (t_cns 1 47 rfl (t_cns 3 209 rfl (t_cns 3 210 rfl (t_cns 3 211 rfl (t_cns 1 19 rfl (t_cns 3 212 rfl (t_cns 10 215 rfl (t_cns 3 213 rfl (t_cns 3 214 rfl (t_cns 3 215 rfl (t_cns 3 216 rfl (t_cns 3 217 rfl (t_cns 10 216 rfl (t_cns 3 219 rfl (t_cns 3 220 rfl (t_cns 3 221 rfl (t_cns 3 222 rfl (t_cns 3 223 rfl (t_cns 3 224 rfl (t_cns 3 225 rfl (t_cns 3 226 rfl (t_cns 3 227 rfl (t_cns 3 228 rfl (t_cns 1 20 rfl (t_cns 3 229 rfl (t_cns 3 230 rfl (t_cns 3 231 rfl (t_cns 3 232 rfl (t_cns 3 233 rfl (t_cns 3 235 rfl (t_cns 3 236 rfl (t_cns 1 21 rfl (t_cns 3 237 rfl (t_cns 3 238 rfl (t_cns 3 239 rfl (t_cns 1 22 rfl (t_cns 4 0 rfl (t_cns 4 1 rfl (t_cns 4 2 rfl (t_cns 4 3 rfl (t_cns 4 4 rfl (t_cns 4 5 rfl (t_cns 4 6 rfl (t_cns 4 7 rfl (t_cns 4 8 rfl (t_cns 4 9 rfl (t_cns 4 10 rfl (t_cns 4 11 rfl (t_cns 4 13 rfl (t_cns 4 15 rfl (t_cns 4 17 rfl (t_cns 4 19 rfl (t_cns 0 8 rfl (t_cns 4 20 rfl (t_cns 4 21 rfl (t_cns 1 23 rfl (t_cns 4 38 rfl ((tw_nil [])))))))))))))))))))))))))))))))))))))))))))))))))))))))))))))))))))))))))))))))))))))))))))))))))))))
theorem tA_3 : ∀ w ∈ wsA_3, w ∈ lw_tbl := t_cns 4 40 rfl (t_cns 0 9 rfl (t_cns 4 41 rfl (t_cns 4 42 rfl (t_cns 4 44 rfl (t_cns 0 10 rfl (t_cns 4 45 rfl (t_cns 4 49 rfl (t_cns 4 51 rfl (t_cns 0 11 rfl (t_cns 4 52 rfl (t_cns 2 177 rfl (t_cns 4 54 rfl (t_cns 4 56 rfl (t_cns 0 12 rfl (t_cns 4 57 rfl (t_cns 2 145 rfl (t_cns 2 112 rfl (t_cns 2 115 rfl (t_cns 2 117 rfl (t_cns 2 120 rfl (t_cns 4 58 rfl (t_cns 4 60 rfl (t_cns 0 13 rfl (t_cns 4 61 rfl (t_cns 4 62 rfl (t_cns 4 64 rfl (t_cns 0 14 rfl (t_cns 4 65 rfl (t_cns 4 67 rfl (t_cns 4 69 rfl (t_cns 0 15 rfl (t_cns 4 70 rfl (t_cns 2 60 rfl (t_cns 2 62 rfl (t_cns 2 64 rfl (t_cns 4 71 rfl (t_cns 4 72 rfl (t_cns 4 73 rfl (t_cns 4 76 rfl (t_cns 4 78 rfl (t_cns 0 16 rfl (t_cns 4 79 rfl (t_cns 2 165 rfl (t_cns 2 161 rfl (t_cns 1 105 rfl (t_cns 1 107 rfl (t_cns 1 109 rfl (t_cns 1 111 rfl (t_cns 1 113 rfl (t_cns 1 116 rfl (t_cns 1 119 rfl (t_cns 1 121 rfl (t_cns 1 123 rfl (t_cns 1 125 rfl (t_cns 4 80 rfl (t_cns 4 82 rfl (t_cns 0 17 rfl (t_cns 4 83 rfl (t_cns 4 90 rfl (t_cns 4 92 rfl (t_cns 0 18 rfl (t_cns 4 93 rfl (t_cns 2 175 rfl (t_cns 2 169 rfl (t_cns 2 172 rfl (t_cns 4 96 rfl (t_cns 4 98 rfl (t_cns 0 19 rfl (t_cns 4 99 rfl (t_cns 2 183 rfl (t_cns 4 100 rfl (t_cns 4 101 rfl (t_cns 4 102 rfl (t_cns 4 103 rfl (t_cns 2 179 rfl (t_cns 4 104 rfl (t_cns 4 106 rfl (t_cns 0 20 rfl (t_cns 4 107 rfl (t_cns 4 109 rfl (t_cns 4 111 rfl (t_cns 0 21 rfl (t_cns 4 112 rfl (t_cns 4 114 rfl (t_cns 4 116 rfl (t_cns 0 22 rfl (t_cns 4 117 rfl (t_cns 2 81 rfl (t_cns 2 78 rfl (t_cns 2 72 rfl (t_cns 4 119 rfl (t_cns 4 121 rfl (t_cns 0 23 rfl (t_cns 4 122 rfl (t_cns 2 188 rfl (t_cns 4 123 rfl (t_cns 4 124 rfl (t_cns 4 125 rfl (t_cns 4 126 rfl ((tw_nil [])))))))))))))))))))))))))))))))))))))))))))))))))))))))))))))))))))))))))))))))))))))))))))))))))))))
theorem tA_4 : ∀ w ∈ wsA_4, w ∈ lw_tbl := t_cns 2 184 rfl (t_cns 4 128 rfl (t_cns 4 130 rfl (t_cns 0 24 rfl (t_cns 4 131 rfl (t_cns 1 193 rfl (t_cns 1 194 rfl (t_cns 1 195 rfl (t_cns 1 198 rfl (t_cns 1 204 rfl (t_cns 1 205 rfl (t_cns 1 196 rfl (t_cns 5 195 rfl (t_cns 2 153 rfl (t_cns 2 190 rfl (t_cns 2 75 rfl (t_cns 1 200 rfl (t_cns 1 202 rfl (t_cns 5 196 rfl (t_cns 5 197 rfl (t_cns 5 198 rfl (t_cns 5 199 rfl (t_cns 5 220 rfl (t_cns 5 231 rfl (t_cns 5 232 rfl (t_cns 5 233 rfl (t_cns 1 9 rfl (t_cns 5 234 rfl (t_cns 2 68 rfl (t_cns 5 235 rfl (t_cns 6 1 rfl (t_cns 6 2 rfl (t_cns 6 3 rfl (t_cns 6 4 rfl (t_cns 6 5 rfl (t_cns 5 2 rfl (t_cns 6 6 rfl (t_cns 6 107 rfl (t_cns 6 47 rfl (t_cns 6 48 rfl (t_cns 6 49 rfl (t_cns 6 68 rfl (t_cns 6 69 rfl (t_cns 6 70 rfl (t_cns 6 71 rfl (t_cns 6 72 rfl (t_cns 6 73 rfl (t_cns 7 54 rfl (t_cns 7 55 rfl (t_cns 7 56 rfl (t_cns 7 57 rfl (t_cns 7 58 rfl (t_cns 1 93 rfl (t_cns 1 94 rfl (t_cns 1 95 rfl (t_cns 1 147 rfl (t_cns 1 97 rfl (t_cns 1 98 rfl (t_cns 1 5 rfl (t_cns 1 148 rfl (t_cns 1 100 rfl (t_cns 1 101 rfl (t_cns 1 102 rfl (t_cns 4 185 rfl (t_cns 2 163 rfl (t_cns 1 237 rfl (t_cns 2 159 rfl (t_cns 2 136 rfl (t_cns 2 0 rfl (t_cns 2 6 rfl (t_cns 2 3 rfl (t_cns 2 9 rfl (t_cns 4 186 rfl (t_cns 4 188 rfl (t_cns 0 26 rfl (t_cns 1 4 rfl (t_cns 4 189 rfl (t_cns 4 190 rfl (t_cns 4 191 rfl (t_cns 1 24 rfl (t_cns 4 192 rfl (t_cns 4 194 rfl (t_cns 4 195 rfl (t_cns 4 196 rfl (t_cns 4 198 rfl (t_cns 0 27 rfl (t_cns 4 199 rfl (t_cns 2 150 rfl (t_cns 2 144 rfl (t_cns 2 174 rfl (t_cns 2 168 rfl (t_cns 2 171 rfl (t_cns 4 200 rfl (t_cns 4 171 rfl (t_cns 4 172 rfl (t_cns 4 173 rfl (t_cns 2 111 rfl (t_cns 2 114 rfl (t_cns 2 133 rfl (t_cns 2 135 rfl ((tw_nil [])))))))))))))))))))))))))))))))))))))))))))))))))))))))))))))))))))))))))))))))))))))))))))))))))))))
theorem tA_5 : ∀ w ∈ wsA_5, w ∈ lw_tbl := t_cns 4 175 rfl (t_cns 4 176 rfl (t_cns 4 201 rfl (t_cns 4 202 rfl (t_cns 4 203 rfl (t_cns 2 178 rfl (t_cns 4 204 rfl (t_cns 4 205 rfl (t_cns 4 206 rfl (t_cns 4 207 rfl (t_cns 1 122 rfl (t_cns 1 120 rfl (t_cns 1 117 rfl (t_cns 1 103 rfl (t_cns 1 114 rfl (t_cns 4 209 rfl (t_cns 4 210 rfl (t_cns 4 211 rfl (t_cns 4 213 rfl (t_cns 4 215 rfl (t_cns 4 217 rfl (t_cns 0 28 rfl (t_cns 4 218 rfl (t_cns 2 12 rfl (t_cns 2 182 rfl (t_cns 2 142 rfl (t_cns 4 234 rfl (t_cns 4 237 rfl (t_cns 1 230 rfl (t_cns 4 219 rfl (t_cns 4 223 rfl (t_cns 4 225 rfl (t_cns 0 29 rfl (t_cns 4 226 rfl (t_cns 2 180 rfl (t_cns 4 227 rfl (t_cns 4 229 rfl (t_cns 0 30 rfl (t_cns 4 230 rfl (t_cns 2 121 rfl (t_cns 2 119 rfl (t_cns 4 231 rfl (t_cns 4 238 rfl (t_cns 4 239 rfl (t_cns 5 0 rfl (t_cns 5 1 rfl (t_cns 7 92 rfl (t_cns 1 104 rfl (t_cns 1 115 rfl (t_cns 1 118 rfl (t_cns 2 156 rfl (t_cns 7 93 rfl (t_cns 4 145 rfl (t_cns 4 146 rfl (t_cns 7 94 rfl (t_cns 4 156 rfl (t_cns 4 157 rfl (t_cns 2 49 rfl (t_cns 2 50 rfl (t_cns 2 51 rfl (t_cns 2 143 rfl (t_cns 2 53 rfl (t_cns 2 54 rfl (t_cns 2 103 rfl (t_cns 2 158 rfl (t_cns 2 167 rfl (t_cns 2 170 rfl (t_cns 2 105 rfl (t_cns 2 189 rfl (t_cns 2 106 rfl (t_cns 1 13 rfl (t_cns 2 56 rfl (t_cns 2 108 rfl (t_cns 4 169 rfl (t_cns 4 170 rfl (t_cns 4 139 rfl (t_cns 4 140 rfl (t_cns 4 144 rfl (t_cns 4 155 rfl (t_cns 4 166 rfl (t_cns 4 167 rfl (t_cns 4 168 rfl (t_cns 1 223 rfl (t_cns 1 224 rfl (t_cns 2 41 rfl (t_cns 1 236 rfl (t_cns 1 239 rfl (t_cns 2 2 rfl (t_cns 2 5 rfl (t_cns 2 8 rfl (t_cns 1 225 rfl (t_cns 1 226 rfl (t_cns 4 181 rfl (t_cns 2 149 rfl (t_cns 2 138 rfl (t_cns 2 187 rfl (t_cns 2 185 rfl (t_cns 2 160 rfl (t_cns 1 124 rfl (t_cns 1 106 rfl ((tw_nil [])))))))))))))))))))))))))))))))))))))))))))))))))))))))))))))))))))))))))))))))))))))))))))))))))))))
theorem tA_6 : ∀ w ∈ wsA_6, w ∈ lw_tbl := t_cns 1 108 rfl (t_cns 1 110 rfl (t_cns 1 112 rfl (t_cns 7 80 rfl (t_cns 1 229 rfl (t_cns 7 81 rfl (t_cns 7 82 rfl (t_cns 7 83 rfl (t_cns 7 84 rfl (t_cns 7 85 rfl (t_cns 7 86 rfl (t_cns 7 88 rfl (t_cns 7 87 rfl (t_cns 1 27 rfl (t_cns 6 148 rfl (t_cns 7 169 rfl (t_cns 5 136 rfl (t_cns 6 21 rfl (t_cns 6 22 rfl (t_cns 7 12 rfl (t_cns 7 173 rfl (t_cns 7 174 rfl (t_cns 7 167 rfl (t_cns 7 168 rfl (t_cns 7 175 rfl (t_cns 7 176 rfl (t_cns 7 177 rfl (t_cns 7 178 rfl (t_cns 7 179 rfl (t_cns 1 40 rfl (t_cns 1 41 rfl (t_cns 3 55 rfl (t_cns 1 45 rfl (t_cns 5 161 rfl (t_cns 6 111 rfl (t_cns 6 120 rfl (t_cns 6 112 rfl (t_cns 6 114 rfl (t_cns 0 37 rfl (t_cns 6 115 rfl (t_cns 6 116 rfl (t_cns 6 118 rfl (t_cns 0 38 rfl (t_cns 6 119 rfl (t_cns 1 32 rfl (t_cns 1 33 rfl (t_cns 1 36 rfl (t_cns 1 37 rfl (t_cns 2 230 rfl (t_cns 1 68 rfl (t_cns 1 69 rfl (t_cns 2 231 rfl (t_cns 1 89 rfl (t_cns 1 90 rfl (t_cns 2 232 rfl (t_cns 1 154 rfl (t_cns 1 155 rfl (t_cns 2 233 rfl (t_cns 1 189 rfl (t_cns 1 190 rfl (t_cns 2 234 rfl (t_cns 2 235 rfl (t_cns 1 219 rfl (t_cns 1 220 rfl (t_cns 2 236 rfl (t_cns 2 237 rfl (t_cns 2 238 rfl (t_cns 2 239 rfl (t_cns 3 0 rfl (t_cns 3 1 rfl (t_cns 2 43 rfl (t_cns 3 2 rfl (t_cns 3 3 rfl (t_cns 2 45 rfl (t_cns 2 46 rfl (t_cns 3 4 rfl (t_cns 3 5 rfl (t_cns 1 39 rfl (t_cns 1 70 rfl (t_cns 1 71 rfl (t_cns 1 92 rfl (t_cns 1 157 rfl (t_cns 1 192 rfl (t_cns 1 222 rfl (t_cns 2 44 rfl (t_cns 2 47 rfl (t_cns 2 48 rfl (t_cns 3 51 rfl (t_cns 1 44 rfl (t_cns 3 52 rfl (t_cns 3 53 rfl (t_cns 3 54 rfl (t_cns 3 100 rfl (t_cns 3 101 rfl (t_cns 1 18 rfl (t_cns 2 157 rfl (t_cns 3 164 rfl (t_cns 3 165 rfl (t_cns 3 166 rfl (t_cns 4 132 rfl ((tw_nil [])))))))))))))))))))))))))))))))))))))))))))))))))))))))))))))))))))))))))))))))))))))))))))))))))))))
theorem tA_7 : ∀ w ∈ wsA_7, w ∈ lw_tbl := t_cns 4 134 rfl (t_cns 0 25 rfl (t_cns 4 135 rfl (t_cns 3 6 rfl (t_cns 1 197 rfl (t_cns 4 136 rfl (t_cns 4 137 rfl (t_cns 4 138 rfl (t_cns 4 178 rfl (t_cns 4 179 rfl (t_cns 4 180 rfl (t_cns 4 182 rfl (t_cns 4 183 rfl (t_cns 4 184 rfl (t_cns 5 19 rfl (t_cns 3 59 rfl (t_cns 1 77 rfl (t_cns 3 63 rfl (t_cns 1 79 rfl (t_cns 3 67 rfl (t_cns 3 71 rfl (t_cns 2 151 rfl (t_cns 5 27 rfl (t_cns 2 146 rfl (t_cns 2 113 rfl (t_cns 2 116 rfl (t_cns 2 118 rfl (t_cns 1 235 rfl (t_cns 5 28 rfl (t_cns 5 30 rfl (t_cns 0 31 rfl (t_cns 5 31 rfl (t_cns 5 32 rfl (t_cns 1 25 rfl (t_cns 5 47 rfl (t_cns 5 49 rfl (t_cns 0 32 rfl (t_cns 5 50 rfl (t_cns 5 51 rfl (t_cns 5 52 rfl (t_cns 5 53 rfl (t_cns 5 54 rfl (t_cns 5 55 rfl (t_cns 5 56 rfl (t_cns 5 57 rfl (t_cns 5 65 rfl (t_cns 1 233 rfl (t_cns 3 75 rfl (t_cns 2 69 rfl (t_cns 3 79 rfl (t_cns 2 71 rfl (t_cns 5 72 rfl (t_cns 5 73 rfl (t_cns 5 75 rfl (t_cns 0 33 rfl (t_cns 5 76 rfl (t_cns 5 77 rfl (t_cns 5 78 rfl (t_cns 3 83 rfl (t_cns 2 166 rfl (t_cns 5 85 rfl (t_cns 2 140 rfl (t_cns 2 1 rfl (t_cns 2 7 rfl (t_cns 2 4 rfl (t_cns 2 10 rfl (t_cns 5 86 rfl (t_cns 5 88 rfl (t_cns 0 34 rfl (t_cns 5 89 rfl (t_cns 5 90 rfl (t_cns 5 97 rfl (t_cns 1 238 rfl (t_cns 5 104 rfl (t_cns 2 162 rfl (t_cns 5 105 rfl (t_cns 3 87 rfl (t_cns 5 112 rfl (t_cns 2 192 rfl (t_cns 5 119 rfl (t_cns 5 120 rfl (t_cns 5 127 rfl (t_cns 5 128 rfl (t_cns 5 133 rfl (t_cns 5 134 rfl (t_cns 5 135 rfl (t_cns 5 145 rfl (t_cns 5 146 rfl (t_cns 5 156 rfl (t_cns 2 13 rfl (t_cns 5 157 rfl (t_cns 5 158 rfl (t_cns 5 159 rfl (t_cns 5 160 rfl (t_cns 5 168 rfl (t_cns 2 15 rfl (t_cns 5 169 rfl (t_cns 5 187 rfl (t_cns 1 199 rfl (t_cns 5 188 rfl ((tw_nil [])))))))))))))))))))))))))))))))))))))))))))))))))))))))))))))))))))))))))))))))))))))))))))))))))))))
theorem tA_8 : ∀ w ∈ wsA_8, w ∈ lw_tbl := t_cns 5 190 rfl (t_cns 0 36 rfl (t_cns 5 191 rfl (t_cns 5 192 rfl (t_cns 5 193 rfl (t_cns 5 194 rfl (t_cns 6 16 rfl (t_cns 6 17 rfl (t_cns 6 18 rfl (t_cns 6 19 rfl (t_cns 6 20 rfl (t_cns 6 29 rfl (t_cns 1 201 rfl (t_cns 6 36 rfl (t_cns 6 43 rfl (t_cns 2 76 rfl (t_cns 6 44 rfl (t_cns 6 45 rfl (t_cns 6 46 rfl (t_cns 6 50 rfl (t_cns 6 57 rfl (t_cns 1 203 rfl (t_cns 6 64 rfl (t_cns 6 65 rfl (t_cns 6 66 rfl (t_cns 6 67 rfl (t_cns 6 80 rfl (t_cns 6 81 rfl (t_cns 6 88 rfl (t_cns 2 82 rfl (t_cns 2 79 rfl (t_cns 6 95 rfl (t_cns 6 96 rfl (t_cns 6 103 rfl (t_cns 6 104 rfl (t_cns 6 105 rfl (t_cns 6 106 rfl (t_cns 6 108 rfl (t_cns 6 109 rfl (t_cns 6 110 rfl (t_cns 6 127 rfl (t_cns 6 128 rfl (t_cns 6 130 rfl (t_cns 0 39 rfl (t_cns 6 131 rfl (t_cns 6 133 rfl (t_cns 6 132 rfl (t_cns 6 140 rfl (t_cns 6 141 rfl (t_cns 6 143 rfl (t_cns 0 40 rfl (t_cns 6 144 rfl (t_cns 6 145 rfl (t_cns 6 146 rfl (t_cns 6 147 rfl (t_cns 6 155 rfl (t_cns 6 162 rfl (t_cns 6 163 rfl (t_cns 6 170 rfl (t_cns 6 171 rfl (t_cns 6 172 rfl (t_cns 6 173 rfl (t_cns 6 192 rfl (t_cns 6 199 rfl (t_cns 1 185 rfl (t_cns 6 200 rfl (t_cns 6 201 rfl (t_cns 6 202 rfl (t_cns 6 208 rfl (t_cns 6 209 rfl (t_cns 6 210 rfl (t_cns 6 218 rfl (t_cns 6 219 rfl (t_cns 6 226 rfl (t_cns 6 227 rfl (t_cns 6 229 rfl (t_cns 0 42 rfl (t_cns 6 230 rfl (t_cns 6 231 rfl (t_cns 6 232 rfl (t_cns 6 239 rfl (t_cns 7 0 rfl (t_cns 7 1 rfl (t_cns 7 8 rfl (t_cns 7 9 rfl (t_cns 7 10 rfl (t_cns 7 11 rfl (t_cns 7 19 rfl (t_cns 7 26 rfl (t_cns 7 27 rfl (t_cns 7 29 rfl (t_cns 0 43 rfl (t_cns 7 30 rfl (t_cns 7 37 rfl (t_cns 7 38 rfl (t_cns 7 45 rfl (t_cns 3 8 rfl (t_cns 7 46 rfl (t_cns 7 47 rfl (t_cns 7 49 rfl ((tw_nil [])))))))))))))))))))))))))))))))))))))))))))))))))))))))))))))))))))))))))))))))))))))))))))))))))))))
theorem tA_9 : ∀ w ∈ wsA_9, w ∈ lw_tbl := t_cns 0 44 rfl (t_cns 7 50 rfl (t_cns 7 51 rfl (t_cns 7 52 rfl (t_cns 7 53 rfl (t_cns 7 65 rfl (t_cns 7 72 rfl (t_cns 7 73 rfl (t_cns 7 75 rfl (t_cns 0 45 rfl (t_cns 7 76 rfl (t_cns 7 77 rfl (t_cns 7 78 rfl (t_cns 7 79 rfl (t_cns 7 89 rfl (t_cns 7 90 rfl (t_cns 7 91 rfl (t_cns 7 95 rfl (t_cns 7 97 rfl (t_cns 0 46 rfl (t_cns 7 98 rfl (t_cns 7 105 rfl (t_cns 7 112 rfl (t_cns 7 119 rfl (t_cns 7 126 rfl (t_cns 7 127 rfl (t_cns 7 129 rfl (t_cns 0 47 rfl (t_cns 7 130 rfl (t_cns 3 7 rfl (t_cns 7 137 rfl (t_cns 7 144 rfl (t_cns 7 151 rfl (t_cns 7 158 rfl (t_cns 7 165 rfl (t_cns 7 166 rfl (t_cns 7 170 rfl (t_cns 7 171 rfl (t_cns 7 172 rfl (t_cns 7 186 rfl (t_cns 1 231 rfl (t_cns 7 193 rfl (t_cns 3 91 rfl (t_cns 7 200 rfl (t_cns 7 207 rfl (t_cns 3 94 rfl (t_cns 3 95 rfl (t_cns 3 96 rfl (t_cns 3 97 rfl (t_cns 3 98 rfl (t_cns 3 99 rfl (t_cns 5 22 rfl (t_cns 5 23 rfl (t_cns 5 24 rfl (t_cns 5 25 rfl (t_cns 5 26 rfl (t_cns 5 61 rfl (t_cns 5 62 rfl (t_cns 5 63 rfl (t_cns 5 64 rfl (t_cns 5 68 rfl (t_cns 5 69 rfl (t_cns 5 70 rfl (t_cns 5 71 rfl (t_cns 5 81 rfl (t_cns 5 82 rfl (t_cns 5 83 rfl (t_cns 5 84 rfl (t_cns 5 93 rfl (t_cns 5 94 rfl (t_cns 5 95 rfl (t_cns 5 96 rfl (t_cns 5 100 rfl (t_cns 5 101 rfl (t_cns 5 102 rfl (t_cns 5 103 rfl (t_cns 5 108 rfl (t_cns 5 109 rfl (t_cns 5 110 rfl (t_cns 5 111 rfl (t_cns 5 115 rfl (t_cns 5 116 rfl (t_cns 5 117 rfl (t_cns 5 118 rfl (t_cns 5 123 rfl (t_cns 5 124 rfl (t_cns 5 125 rfl (t_cns 5 126 rfl (t_cns 5 141 rfl (t_cns 5 142 rfl (t_cns 5 143 rfl (t_cns 5 144 rfl (t_cns 5 152 rfl (t_cns 5 153 rfl (t_cns 5 154 rfl (t_cns 5 155 rfl (t_cns 5 164 rfl (t_cns 5 165 rfl (t_cns 5 166 rfl (t_cns 5 167 rfl ((tw_nil [])))))))))))))))))))))))))))))))))))))))))))))))))))))))))))))))))))))))))))))))))))))))))))))))))))))
theorem tA_10 : ∀ w ∈ wsA_10, w ∈ lw_tbl := t_cns 5 183 rfl (t_cns 5 184 rfl (t_cns 5 185 rfl (t_cns 5 186 rfl (t_cns 6 12 rfl (t_cns 6 13 rfl (t_cns 6 14 rfl (t_cns 6 15 rfl (t_cns 6 25 rfl (t_cns 6 26 rfl (t_cns 6 27 rfl (t_cns 6 28 rfl (t_cns 6 32 rfl (t_cns 6 33 rfl (t_cns 6 34 rfl (t_cns 6 35 rfl (t_cns 6 39 rfl (t_cns 6 40 rfl (t_cns 6 41 rfl (t_cns 6 42 rfl (t_cns 6 53 rfl (t_cns 6 54 rfl (t_cns 6 55 rfl (t_cns 6 56 rfl (t_cns 6 60 rfl (t_cns 6 61 rfl (t_cns 6 62 rfl (t_cns 6 63 rfl (t_cns 6 76 rfl (t_cns 6 77 rfl (t_cns 6 78 rfl (t_cns 6 79 rfl (t_cns 6 84 rfl (t_cns 6 85 rfl (t_cns 6 86 rfl (t_cns 6 87 rfl (t_cns 6 91 rfl (t_cns 6 92 rfl (t_cns 6 93 rfl (t_cns 6 94 rfl (t_cns 6 99 rfl (t_cns 6 100 rfl (t_cns 6 101 rfl (t_cns 6 102 rfl (t_cns 6 123 rfl (t_cns 6 124 rfl (t_cns 6 125 rfl (t_cns 6 126 rfl (t_cns 6 136 rfl (t_cns 6 137 rfl (t_cns 6 138 rfl (t_cns 6 139 rfl (t_cns 6 151 rfl (t_cns 6 152 rfl (t_cns 6 153 rfl (t_cns 6 154 rfl (t_cns 6 158 rfl (t_cns 6 159 rfl (t_cns 6 160 rfl (t_cns 6 161 rfl (t_cns 6 166 rfl (t_cns 6 167 rfl (t_cns 6 168 rfl (t_cns 6 169 rfl (t_cns 6 188 rfl (t_cns 6 189 rfl (t_cns 6 190 rfl (t_cns 6 191 rfl (t_cns 6 195 rfl (t_cns 6 196 rfl (t_cns 6 197 rfl (t_cns 6 198 rfl (t_cns 6 214 rfl (t_cns 6 215 rfl (t_cns 6 216 rfl (t_cns 6 217 rfl (t_cns 6 222 rfl (t_cns 6 223 rfl (t_cns 6 224 rfl (t_cns 6 225 rfl (t_cns 6 235 rfl (t_cns 6 236 rfl (t_cns 6 237 rfl (t_cns 6 238 rfl (t_cns 7 4 rfl (t_cns 7 5 rfl (t_cns 7 6 rfl (t_cns 7 7 rfl (t_cns 7 15 rfl (t_cns 7 16 rfl (t_cns 7 17 rfl (t_cns 7 18 rfl (t_cns 7 22 rfl (t_cns 7 23 rfl (t_cns 7 24 rfl (t_cns 7 25 rfl (t_cns 7 33 rfl (t_cns 7 34 rfl (t_cns 7 35 rfl (t_cns 7 36 rfl ((tw_nil [])))))))))))))))))))))))))))))))))))))))))))))))))))))))))))))))))))))))))))))))))))))))))))))))))))))
theorem tA_11 : ∀ w ∈ wsA_11, w ∈ lw_tbl := t_cns 7 41 rfl (t_cns 7 42 rfl (t_cns 7 43 rfl (t_cns 7 44 rfl (t_cns 7 61 rfl (t_cns 7 62 rfl (t_cns 7 63 rfl (t_cns 7 64 rfl (t_cns 7 68 rfl (t_cns 7 69 rfl (t_cns 7 70 rfl (t_cns 7 71 rfl (t_cns 7 101 rfl (t_cns 7 102 rfl (t_cns 7 103 rfl (t_cns 7 104 rfl (t_cns 7 108 rfl (t_cns 7 109 rfl (t_cns 7 110 rfl (t_cns 7 111 rfl (t_cns 7 115 rfl (t_cns 7 116 rfl (t_cns 7 117 rfl (t_cns 7 118 rfl (t_cns 7 122 rfl (t_cns 7 123 rfl (t_cns 7 124 rfl (t_cns 7 125 rfl (t_cns 7 133 rfl (t_cns 7 134 rfl (t_cns 7 135 rfl (t_cns 7 136 rfl (t_cns 7 140 rfl (t_cns 7 141 rfl (t_cns 7 142 rfl (t_cns 7 143 rfl (t_cns 7 147 rfl (t_cns 7 148 rfl (t_cns 7 149 rfl (t_cns 7 150 rfl (t_cns 7 154 rfl (t_cns 7 155 rfl (t_cns 7 156 rfl (t_cns 7 157 rfl (t_cns 7 161 rfl (t_cns 7 162 rfl (t_cns 7 163 rfl (t_cns 7 164 rfl (t_cns 7 182 rfl (t_cns 7 183 rfl (t_cns 7 184 rfl (t_cns 7 185 rfl (t_cns 7 189 rfl (t_cns 7 190 rfl (t_cns 7 191 rfl (t_cns 7 192 rfl (t_cns 7 196 rfl (t_cns 7 197 rfl (t_cns 7 198 rfl (t_cns 7 199 rfl (t_cns 7 203 rfl (t_cns 7 204 rfl (t_cns 7 205 rfl (t_cns 7 206 rfl ((tw_nil [])))))))))))))))))))))))))))))))))))))))))))))))))))))))))))))))))
theorem tA_12 : ∀ w ∈ wsX100, w ∈ lw_tbl := t_cns 1 176 rfl (t_cns 1 178 rfl (t_cns 1 180 rfl ((tw_nil []))))
theorem tA_13 : ∀ w ∈ wsX00, w ∈ lw_tbl := t_cns 1 186 rfl ((tw_nil []))
theorem tA_14 : ∀ w ∈ wsX60, w ∈ lw_tbl := t_cns 2 193 rfl (t_cns 2 195 rfl (t_cns 2 197 rfl (t_cns 2 199 rfl (t_cns 2 201 rfl (t_cns 2 203 rfl (t_cns 2 205 rfl (t_cns 2 207 rfl (t_cns 2 209 rfl (t_cns 2 211 rfl (t_cns 2 213 rfl (t_cns 2 215 rfl (t_cns 2 217 rfl (t_cns 2 219 rfl (t_cns 2 221 rfl (t_cns 2 223 rfl (t_cns 2 225 rfl (t_cns 2 227 rfl ((tw_nil [])))))))))))))))))))
theorem tA_15 : ∀ w ∈ wsX10, w ∈ lw_tbl := t_cns 2 84 rfl (t_cns 2 86 rfl (t_cns 2 88 rfl (t_cns 2 90 rfl (t_cns 2 92 rfl (t_cns 2 94 rfl (t_cns 2 96 rfl (t_cns 2 98 rfl (t_cns 2 100 rfl ((tw_nil []))))))))))
theorem tA_16 : ∀ w ∈ wsX80, w ∈ lw_tbl := t_cns 2 16 rfl (t_cns 2 18 rfl (t_cns 2 20 rfl (t_cns 2 22 rfl (t_cns 2 24 rfl (t_cns 2 26 rfl (t_cns 2 28 rfl (t_cns 2 30 rfl (t_cns 2 32 rfl (t_cns 2 34 rfl (t_cns 2 36 rfl (t_cns 2 38 rfl ((tw_nil [])))))))))))))
theorem tA_17 : ∀ w ∈ wsX30, w ∈ lw_tbl := t_cns 1 80 rfl (t_cns 1 82 rfl (t_cns 1 84 rfl (t_cns 1 86 rfl ((tw_nil [])))))
theorem tA_18 : ∀ w ∈ wsX90, w ∈ lw_tbl := t_cns 1 54 rfl (t_cns 1 56 rfl (t_cns 1 58 rfl (t_cns 1 60 rfl (t_cns 1 62 rfl (t_cns 1 64 rfl ((tw_nil [])))))))
theorem tA_19 : ∀ w ∈ wsX20, w ∈ lw_tbl := t_cns 2 122 rfl (t_cns 2 124 rfl (t_cns 2 126 rfl (t_cns 2 128 rfl ((tw_nil [])))))
theorem tA_20 : ∀ w ∈ wsX70, w ∈ lw_tbl := t_cns 1 126 rfl (t_cns 1 128 rfl (t_cns 1 130 rfl (t_cns 1 132 rfl (t_cns 1 134 rfl (t_cns 1 136 rfl (t_cns 1 138 rfl (t_cns 1 140 rfl (t_cns 1 142 rfl (t_cns 1 144 rfl ((tw_nil [])))))))))))
theorem tA_21 : ∀ w ∈ wsX40, w ∈ lw_tbl := t_cns 1 206 rfl (t_cns 1 208 rfl (t_cns 1 210 rfl (t_cns 1 212 rfl (t_cns 1 214 rfl (t_cns 1 216 rfl ((tw_nil [])))))))
theorem tA_22 : ∀ w ∈ wsX50, w ∈ lw_tbl := t_cns 1 149 rfl (t_cns 1 151 rfl ((tw_nil [])))
theorem tA_23 : ∀ w ∈ wsX110, w ∈ lw_tbl := t_cns 3 9 rfl (t_cns 3 11 rfl (t_cns 3 13 rfl (t_cns 3 15 rfl (t_cns 3 17 rfl (t_cns 3 19 rfl (t_cns 3 21 rfl (t_cns 3 23 rfl (t_cns 3 25 rfl (t_cns 3 27 rfl (t_cns 3 29 rfl (t_cns 3 31 rfl (t_cns 3 33 rfl (t_cns 3 35 rfl (t_cns 3 37 rfl (t_cns 3 39 rfl (t_cns 3 41 rfl (t_cns 3 43 rfl (t_cns 3 45 rfl ((tw_nil []))))))))))))))))))))
theorem tA_24 : ∀ w ∈ xA_0, w ∈ lw_tbl := t_in [(0, 0), (1, 15), (1, 16), (1, 17), (1, 23), (3, 96), (3, 104), (3, 105), (3, 106), (3, 107), (3, 108), (3, 109), (3, 110), (3, 111), (3, 112), (3, 113), (3, 114), (3, 115), (3, 116), (3, 117), (3, 118), (3, 119), (3, 120), (3, 121), (3, 122), (3, 123), (3, 124), (3, 125), (3, 126), (3, 127), (3, 128), (3, 129), (3, 130), (3, 131), (3, 132), (3, 133), (3, 134), (3, 135), (3, 136), (3, 137), (3, 138), (3, 139), (3, 140), (3, 141), (3, 145), (3, 146), (3, 147), (3, 148), (3, 149), (3, 150), (3, 151), (3, 152), (3, 153), (3, 154), (3, 155), (3, 156), (3, 157), (3, 158), (3, 159), (3, 160), (3, 161), (3, 162), (3, 163), (4, 21), (4, 22), (4, 23), (4, 24), (4, 25), (4, 26), (4, 27), (4, 28), (4, 29), (4, 30), (4, 31), (4, 32), (4, 33), (4, 34), (4, 35), (5, 35), (5, 36), (5, 37), (5, 38), (5, 39), (5, 40), (5, 44), (5, 45), (5, 46), (5, 57), (5, 58), (10, 214), (1, 34), (1, 35)] (by decide +kernel)
theorem tA_25 : ∀ w ∈ xA_1, w ∈ lw_tbl := t_in [(0, 0), (1, 15), (1, 16), (1, 17), (1, 18), (3, 95), (3, 101), (3, 102), (3, 103), (3, 104), (3, 105), (3, 106), (3, 107), (3, 108), (3, 109), (3, 110), (3, 111), (3, 112), (3, 113), (3, 114), (3, 115), (3, 116), (3, 117), (3, 118), (3, 119), (3, 120), (3, 121), (3, 122), (3, 123), (3, 124), (3, 125), (3, 126), (3, 127), (3, 128), (3, 129), (3, 130), (3, 131), (3, 132), (3, 133), (3, 134), (3, 135), (3, 136), (3, 137), (3, 138), (3, 139), (3, 140), (3, 141), (3, 142), (3, 143), (3, 144), (3, 145), (3, 146), (3, 147), (3, 148), (3, 149), (3, 150), (3, 151), (3, 152), (3, 153), (3, 154), (3, 155), (3, 156), (3, 157), (3, 158), (3, 159), (3, 160), (3, 161), (3, 162), (3, 163), (4, 24), (4, 25), (4, 26), (4, 27), (4, 28), (4, 29), (4, 33), (4, 34), (4, 35), (5, 35), (5, 36), (5, 37), (5, 38), (5, 39), (5, 40), (5, 44), (5, 45), (5, 46), (10, 214), (1, 34), (1, 35)] (by decide +kernel)
theorem tA_26 : ∀ w ∈ xA_2, w ∈ lw_tbl := t_in [(0, 0), (1, 15), (1, 16), (1, 17), (1, 25), (3, 104), (3, 105), (3, 106), (3, 107), (3, 108), (3, 109), (3, 110), (3, 111), (3, 112), (3, 113), (3, 114), (3, 115), (3, 116), (3, 117), (3, 118), (3, 119), (3, 120), (3, 121), (3, 122), (3, 123), (3, 124), (3, 125), (3, 126), (3, 127), (3, 128), (3, 129), (3, 130), (3, 131), (3, 132), (3, 133), (3, 134), (3, 135), (3, 136), (3, 137), (3, 138), (3, 139), (3, 140), (3, 141), (3, 145), (3, 146), (3, 147), (3, 148), (3, 149), (3, 150), (3, 151), (3, 152), (3, 153), (3, 154), (3, 155), (3, 156), (3, 157), (3, 158), (3, 159), (3, 160), (3, 161), (3, 162), (3, 163), (4, 24), (4, 25), (4, 26), (4, 27), (4, 28), (4, 29), (4, 33), (4, 34), (4, 35), (5, 23), (5, 32), (5, 33), (5, 34), (5, 35), (5, 36), (5, 37), (5, 38), (5, 39), (5, 40), (5, 41), (5, 42), (5, 43), (5, 44), (5, 45), (5, 46), (10, 214), (1, 34), (1, 35)] (by decide +kernel)
theorem tA_27 : ∀ w ∈ xA_3, w ∈ lw_tbl := t_in [(0, 0), (1, 15), (1, 16), (1, 17), (1, 23), (3, 96), (3, 104), (3, 105), (3, 106), (3, 107), (3, 108), (3, 109), (3, 110), (3, 111), (3, 112), (3, 113), (3, 114), (3, 115), (3, 116), (3, 117), (3, 118), (3, 119), (3, 120), (3, 121), (3, 122), (3, 123), (3, 124), (3, 125), (3, 126), (3, 127), (3, 128), (3, 129), (3, 130), (3, 131), (3, 132), (3, 133), (3, 134), (3, 135), (3, 136), (3, 137), (3, 138), (3, 139), (3, 140), (3, 141), (3, 145), (3, 146), (3, 147), (3, 148), (3, 149), (3, 150), (3, 151), (3, 152), (3, 153), (3, 154), (3, 155), (3, 156), (3, 157), (3, 158), (3, 159), (3, 160), (3, 161), (3, 162), (3, 163), (4, 21), (4, 22), (4, 23), (4, 24), (4, 25), (4, 26), (4, 27), (4, 28), (4, 29), (4, 30), (4, 31), (4, 32), (4, 33), (4, 34), (4, 35), (5, 35), (5, 36), (5, 37), (5, 38), (5, 39), (5, 40), (5, 44), (5, 45), (5, 46), (5, 57), (5, 58), (10, 214), (1, 34), (1, 35)] (by decide +kernel)
theorem tA : ∀ w ∈ wsA, w ∈ lw_tbl := fun w h => (List.mem_append.mp h).elim (fun h => tA_0 w h) (fun h => (List.mem_append.mp h).elim (fun h => tA_1 w h) (fun h => (List.mem_append.mp h).elim (fun h => tA_2 w h) (fun h => (List.mem_append.mp h).elim (fun h => tA_3 w h) (fun h => (List.mem_append.mp h).elim (fun h => tA_4 w h) (fun h => (List.mem_append.mp h).elim (fun h => tA_5 w h) (fun h => (List.mem_append.mp h).elim (fun h => tA_6 w h) (fun h => (List.mem_append.mp h).elim (fun h => tA_7 w h) (fun h => (List.mem_append.mp h).elim (fun h => tA_8 w h) (fun h => (List.mem_append.mp h).elim (fun h => tA_9 w h) (fun h => (List.mem_append.mp h).elim (fun h => tA_10 w h) (fun h => (List.mem_append.mp h).elim (fun h => tA_11 w h) (fun h => (List.mem_append.mp h).elim (fun h => tA_12 w h) (fun h => (List.mem_append.mp h).elim (fun h => tA_13 w h) (fun h => (List.mem_append.mp h).elim (fun h => tA_14 w h) (fun h => (List.mem_append.mp h).elim (fun h => tA_15 w h) (fun h => (List.mem_append.mp h).elim (fun h => tA_16 w h) (fun h => (List.mem_append.mp h).elim (fun h => tA_17 w h) (fun h => (List.mem_append.mp h).elim (fun h => tA_18 w h) (fun h => (List.mem_append.mp h).elim (fun h => tA_19 w h) (fun h => (List.mem_append.mp h).elim (fun h => tA_20 w h) (fun h => (List.mem_append.mp h).elim (fun h => tA_21 w h) (fun h => (List.mem_append.mp h).elim (fun h => tA_22 w h) (fun h => (List.mem_append.mp h).elim (fun h => tA_23 w h) (fun h => (List.mem_append.mp h).elim (fun h => tA_24 w h) (fun h => (List.mem_append.mp h).elim (fun h => tA_25 w h) (fun h => (List.mem_append.mp h).elim (fun h => tA_26 w h) (fun h => tA_27 w h)))))))))))))))))))))))))))
theorem tM_x : ∀ w ∈ wsX120, w ∈ lw_tbl := t_cns 8 4 rfl (t_cns 8 6 rfl (t_cns 8 8 rfl (t_cns 8 10 rfl (t_cns 8 12 rfl (t_cns 8 14 rfl (t_cns 8 16 rfl (t_cns 8 18 rfl (t_cns 8 20 rfl (t_cns 8 22 rfl (t_cns 8 24 rfl (t_cns 8 26 rfl (t_cns 8 28 rfl (t_cns 8 30 rfl (t_cns 8 32 rfl (t_cns 8 34 rfl (t_cns 8 36 rfl (t_cns 8 38 rfl (t_cns 8 40 rfl (t_cns 8 42 rfl (t_cns 8 44 rfl (t_cns 8 46 rfl (t_cns 8 48 rfl (t_cns 8 50 rfl (t_cns 8 52 rfl (t_cns 8 54 rfl (t_cns 8 56 rfl (t_cns 8 58 rfl (t_cns 8 60 rfl (t_cns 8 62 rfl ((tw_nil [])))))))))))))))))))))))))))))))
theorem tM_0 : ∀ w ∈ wsM_0, w ∈ lw_tbl := t_cns 7 212 rfl (t_cns 7 213 rfl (t_cns 1 34 rfl (t_cns 1 35 rfl (t_cns 1 67 rfl (t_cns 7 215 rfl (t_cns 7 220 rfl (t_cns 7 224 rfl (t_cns 7 225 rfl (t_cns 7 226 rfl (t_cns 7 227 rfl (t_cns 7 228 rfl (t_cns 7 229 rfl (t_cns 7 230 rfl (t_cns 7 231 rfl (t_cns 2 41 rfl (t_cns 7 232 rfl (t_cns 7 235 rfl (t_cns 7 237 rfl (t_cns 7 238 rfl (t_cns 1 183 rfl (t_cns 7 239 rfl (t_cns 8 0 rfl (t_cns 8 1 rfl (t_cns 8 3 rfl (t_cns 8 68 rfl (t_cns 7 214 rfl (t_cns 8 95 rfl (t_cns 8 99 rfl (t_cns 8 76 rfl (t_cns 7 216 rfl (t_cns 8 72 rfl (t_cns 8 73 rfl (t_cns 8 75 rfl (t_cns 0 48 rfl (t_cns 1 14 rfl (t_cns 8 80 rfl (t_cns 8 84 rfl (t_cns 7 219 rfl (t_cns 8 88 rfl (t_cns 8 111 rfl (t_cns 7 217 rfl (t_cns 8 137 rfl (t_cns 7 222 rfl (t_cns 8 114 rfl (t_cns 8 107 rfl (t_cns 7 218 rfl (t_cns 7 221 rfl (t_cns 7 223 rfl (t_cns 8 108 rfl (t_cns 8 110 rfl (t_cns 0 52 rfl (t_cns 8 93 rfl (t_cns 8 94 rfl (t_cns 8 112 rfl (t_cns 8 113 rfl (t_cns 8 157 rfl (t_cns 8 131 rfl (t_cns 8 132 rfl (t_cns 3 210 rfl (t_cns 3 211 rfl (t_cns 1 19 rfl (t_cns 3 212 rfl (t_cns 10 215 rfl (t_cns 3 213 rfl (t_cns 3 214 rfl (t_cns 3 215 rfl (t_cns 3 216 rfl (t_cns 3 217 rfl (t_cns 10 216 rfl (t_cns 8 133 rfl (t_cns 3 220 rfl (t_cns 3 221 rfl (t_cns 3 222 rfl (t_cns 3 223 rfl (t_cns 3 224 rfl (t_cns 3 225 rfl (t_cns 3 226 rfl (t_cns 3 227 rfl (t_cns 3 228 rfl (t_cns 1 20 rfl (t_cns 3 229 rfl (t_cns 3 230 rfl (t_cns 3 231 rfl (t_cns 3 232 rfl (t_cns 3 233 rfl (t_cns 3 235 rfl (t_cns 3 236 rfl (t_cns 1 21 rfl (t_cns 3 237 rfl (t_cns 3 238 rfl (t_cns 3 239 rfl (t_cns 1 22 rfl (t_cns 4 0 rfl (t_cns 4 1 rfl (t_cns 4 2 rfl (t_cns 4 3 rfl (t_cns 4 4 rfl (t_cns 4 5 rfl (t_cns 4 6 rfl ((tw_nil [])))))))))))))))))))))))))))))))))))))))))))))))))))))))))))))))))))))))))))))))))))))))))))))))))))))
theorem tM_1 : ∀ w ∈ wsM_1, w ∈ lw_tbl := t_cns 4 7 rfl (t_cns 4 8 rfl (t_cns 4 9 rfl (t_cns 4 10 rfl (t_cns 4 11 rfl (t_cns 4 13 rfl (t_cns 4 15 rfl (t_cns 8 127 rfl (t_cns 8 128 rfl (t_cns 8 130 rfl (t_cns 0 56 rfl (t_cns 8 104 rfl (t_cns 8 106 rfl (t_cns 0 51 rfl (t_cns 8 123 rfl (t_cns 8 124 rfl (t_cns 8 126 rfl (t_cns 0 55 rfl (t_cns 8 134 rfl (t_cns 8 136 rfl (t_cns 0 57 rfl (t_cns 8 150 rfl (t_cns 8 146 rfl (t_cns 8 147 rfl (t_cns 8 149 rfl (t_cns 0 60 rfl (t_cns 8 142 rfl (t_cns 8 120 rfl (t_cns 8 122 rfl (t_cns 0 54 rfl (t_cns 8 143 rfl (t_cns 8 145 rfl (t_cns 0 59 rfl (t_cns 8 170 rfl (t_cns 8 154 rfl (t_cns 8 156 rfl (t_cns 0 61 rfl (t_cns 8 118 rfl (t_cns 8 139 rfl (t_cns 8 141 rfl (t_cns 0 58 rfl (t_cns 8 205 rfl (t_cns 8 167 rfl (t_cns 8 169 rfl (t_cns 0 64 rfl (t_cns 8 210 rfl (t_cns 8 215 rfl (t_cns 8 166 rfl (t_cns 8 175 rfl (t_cns 8 180 rfl (t_cns 8 185 rfl (t_cns 8 195 rfl (t_cns 8 200 rfl (t_cns 8 190 rfl (t_cns 8 161 rfl (t_cns 8 163 rfl (t_cns 8 165 rfl (t_cns 0 63 rfl (t_cns 8 172 rfl (t_cns 8 174 rfl (t_cns 0 65 rfl (t_cns 8 177 rfl (t_cns 8 179 rfl (t_cns 0 66 rfl (t_cns 8 182 rfl (t_cns 8 184 rfl (t_cns 0 67 rfl (t_cns 8 187 rfl (t_cns 8 189 rfl (t_cns 0 68 rfl (t_cns 8 192 rfl (t_cns 8 194 rfl (t_cns 0 69 rfl (t_cns 8 197 rfl (t_cns 8 199 rfl (t_cns 0 70 rfl (t_cns 8 202 rfl (t_cns 8 204 rfl (t_cns 0 71 rfl (t_cns 8 207 rfl (t_cns 8 209 rfl (t_cns 0 72 rfl (t_cns 8 212 rfl (t_cns 8 214 rfl (t_cns 0 73 rfl (t_cns 8 103 rfl (t_cns 8 115 rfl (t_cns 8 117 rfl (t_cns 0 53 rfl (t_cns 8 158 rfl (t_cns 8 160 rfl (t_cns 0 62 rfl (t_cns 8 92 rfl (t_cns 7 234 rfl (t_cns 7 233 rfl (t_cns 8 96 rfl (t_cns 8 98 rfl (t_cns 0 49 rfl (t_cns 8 100 rfl (t_cns 8 102 rfl ((tw_nil [])))))))))))))))))))))))))))))))))))))))))))))))))))))))))))))))))))))))))))))))))))))))))))))))))))))
theorem tM_2 : ∀ w ∈ wsM_2, w ∈ lw_tbl := t_cns 0 50 rfl (t_cns 8 221 rfl (t_cns 8 222 rfl (t_cns 8 223 rfl (t_cns 8 224 rfl (t_cns 8 226 rfl (t_cns 0 74 rfl (t_cns 8 227 rfl (t_cns 8 228 rfl (t_cns 8 230 rfl (t_cns 0 75 rfl (t_cns 8 231 rfl (t_cns 8 232 rfl (t_cns 8 234 rfl (t_cns 0 76 rfl (t_cns 8 235 rfl (t_cns 8 236 rfl (t_cns 8 237 rfl (t_cns 8 238 rfl (t_cns 8 239 rfl (t_cns 9 0 rfl (t_cns 9 2 rfl (t_cns 0 77 rfl (t_cns 9 3 rfl (t_cns 9 4 rfl (t_cns 9 6 rfl (t_cns 0 78 rfl (t_cns 9 7 rfl (t_cns 9 8 rfl (t_cns 9 10 rfl (t_cns 0 79 rfl (t_cns 9 11 rfl (t_cns 9 12 rfl (t_cns 9 14 rfl (t_cns 0 80 rfl (t_cns 9 15 rfl (t_cns 9 16 rfl (t_cns 9 18 rfl (t_cns 0 81 rfl (t_cns 9 19 rfl (t_cns 7 236 rfl (t_cns 9 20 rfl (t_cns 9 22 rfl (t_cns 0 82 rfl (t_cns 9 23 rfl (t_cns 9 24 rfl (t_cns 4 210 rfl (t_cns 1 8 rfl (t_cns 4 211 rfl (t_cns 9 25 rfl (t_cns 9 26 rfl (t_cns 9 28 rfl (t_cns 0 83 rfl (t_cns 9 29 rfl (t_cns 9 30 rfl (t_cns 9 32 rfl (t_cns 0 84 rfl (t_cns 9 33 rfl (t_cns 9 34 rfl (t_cns 9 36 rfl (t_cns 0 85 rfl (t_cns 9 37 rfl (t_cns 9 38 rfl (t_cns 4 235 rfl (t_cns 4 236 rfl (t_cns 9 39 rfl (t_cns 1 169 rfl (t_cns 1 170 rfl (t_cns 10 164 rfl (t_cns 10 140 rfl (t_cns 9 139 rfl (t_cns 9 179 rfl (t_cns 9 67 rfl (t_cns 9 143 rfl (t_cns 9 64 rfl (t_cns 9 66 rfl (t_cns 0 89 rfl (t_cns 9 155 rfl (t_cns 9 171 rfl (t_cns 9 152 rfl (t_cns 9 154 rfl (t_cns 0 96 rfl (t_cns 9 167 rfl (t_cns 9 140 rfl (t_cns 9 142 rfl (t_cns 0 95 rfl (t_cns 9 168 rfl (t_cns 9 170 rfl (t_cns 0 99 rfl (t_cns 9 163 rfl (t_cns 9 136 rfl (t_cns 9 138 rfl (t_cns 0 94 rfl (t_cns 9 164 rfl (t_cns 9 166 rfl (t_cns 0 98 rfl (t_cns 9 191 rfl (t_cns 9 160 rfl (t_cns 9 162 rfl (t_cns 0 97 rfl ((tw_nil [])))))))))))))))))))))))))))))))))))))))))))))))))))))))))))))))))))))))))))))))))))))))))))))))))))))
theorem tM_3 : ∀ w ∈ wsM_3, w ∈ lw_tbl := t_cns 9 187 rfl (t_cns 9 188 rfl (t_cns 9 190 rfl (t_cns 0 102 rfl (t_cns 9 59 rfl (t_cns 9 47 rfl (t_cns 9 55 rfl (t_cns 9 83 rfl (t_cns 9 95 rfl (t_cns 9 99 rfl (t_cns 9 233 rfl (t_cns 9 43 rfl (t_cns 9 44 rfl (t_cns 9 46 rfl (t_cns 0 86 rfl (t_cns 9 51 rfl (t_cns 9 52 rfl (t_cns 9 54 rfl (t_cns 0 87 rfl (t_cns 9 56 rfl (t_cns 9 58 rfl (t_cns 0 88 rfl (t_cns 9 63 rfl (t_cns 9 71 rfl (t_cns 9 75 rfl (t_cns 9 79 rfl (t_cns 9 80 rfl (t_cns 9 82 rfl (t_cns 0 90 rfl (t_cns 9 87 rfl (t_cns 9 91 rfl (t_cns 9 92 rfl (t_cns 9 94 rfl (t_cns 0 91 rfl (t_cns 9 96 rfl (t_cns 9 98 rfl (t_cns 0 92 rfl (t_cns 9 103 rfl (t_cns 9 107 rfl (t_cns 9 111 rfl (t_cns 9 115 rfl (t_cns 9 122 rfl (t_cns 9 119 rfl (t_cns 9 120 rfl (t_cns 9 121 rfl (t_cns 9 130 rfl (t_cns 9 126 rfl (t_cns 9 131 rfl (t_cns 9 127 rfl (t_cns 9 129 rfl (t_cns 0 93 rfl (t_cns 9 135 rfl (t_cns 9 147 rfl (t_cns 9 151 rfl (t_cns 9 159 rfl (t_cns 9 175 rfl (t_cns 9 176 rfl (t_cns 9 178 rfl (t_cns 0 100 rfl (t_cns 9 183 rfl (t_cns 9 184 rfl (t_cns 9 186 rfl (t_cns 0 101 rfl (t_cns 9 195 rfl (t_cns 9 199 rfl (t_cns 9 207 rfl (t_cns 9 203 rfl (t_cns 9 204 rfl (t_cns 9 206 rfl (t_cns 0 103 rfl (t_cns 9 215 rfl (t_cns 9 211 rfl (t_cns 9 212 rfl (t_cns 9 214 rfl (t_cns 0 104 rfl (t_cns 9 219 rfl (t_cns 9 223 rfl (t_cns 9 224 rfl (t_cns 9 225 rfl (t_cns 9 226 rfl (t_cns 9 237 rfl (t_cns 9 238 rfl (t_cns 10 0 rfl (t_cns 0 106 rfl (t_cns 10 1 rfl (t_cns 9 230 rfl (t_cns 9 231 rfl (t_cns 9 232 rfl (t_cns 9 234 rfl (t_cns 9 236 rfl (t_cns 0 105 rfl (t_cns 10 12 rfl (t_cns 10 8 rfl (t_cns 10 5 rfl (t_cns 10 6 rfl (t_cns 10 7 rfl (t_cns 10 9 rfl (t_cns 10 11 rfl (t_cns 0 107 rfl (t_cns 10 16 rfl ((tw_nil [])))))))))))))))))))))))))))))))))))))))))))))))))))))))))))))))))))))))))))))))))))))))))))))))))))))
theorem tM_4 : ∀ w ∈ wsM_4, w ∈ lw_tbl := t_cns 10 28 rfl (t_cns 10 24 rfl (t_cns 10 20 rfl (t_cns 10 21 rfl (t_cns 10 23 rfl (t_cns 0 108 rfl (t_cns 10 25 rfl (t_cns 10 27 rfl (t_cns 0 109 rfl (t_cns 10 36 rfl (t_cns 10 32 rfl (t_cns 10 33 rfl (t_cns 10 35 rfl (t_cns 0 110 rfl (t_cns 10 40 rfl (t_cns 10 56 rfl (t_cns 10 64 rfl (t_cns 10 60 rfl (t_cns 10 61 rfl (t_cns 10 63 rfl (t_cns 0 115 rfl (t_cns 10 52 rfl (t_cns 10 53 rfl (t_cns 10 55 rfl (t_cns 0 113 rfl (t_cns 10 57 rfl (t_cns 10 59 rfl (t_cns 0 114 rfl (t_cns 10 48 rfl (t_cns 10 44 rfl (t_cns 10 45 rfl (t_cns 10 47 rfl (t_cns 0 111 rfl (t_cns 10 49 rfl (t_cns 10 51 rfl (t_cns 0 112 rfl (t_cns 10 68 rfl (t_cns 10 76 rfl (t_cns 10 80 rfl (t_cns 10 72 rfl (t_cns 10 73 rfl (t_cns 10 75 rfl (t_cns 0 116 rfl (t_cns 10 77 rfl (t_cns 10 79 rfl (t_cns 0 117 rfl (t_cns 10 84 rfl (t_cns 10 95 rfl (t_cns 10 91 rfl (t_cns 10 88 rfl (t_cns 10 89 rfl (t_cns 10 90 rfl (t_cns 10 92 rfl (t_cns 10 94 rfl (t_cns 0 118 rfl (t_cns 10 99 rfl (t_cns 10 107 rfl (t_cns 10 103 rfl (t_cns 10 104 rfl (t_cns 10 106 rfl (t_cns 0 119 rfl (t_cns 10 111 rfl (t_cns 10 119 rfl (t_cns 10 115 rfl (t_cns 10 116 rfl (t_cns 10 118 rfl (t_cns 0 120 rfl (t_cns 10 123 rfl (t_cns 10 127 rfl (t_cns 8 2 rfl (t_cns 10 128 rfl (t_cns 10 132 rfl (t_cns 10 136 rfl (t_cns 10 137 rfl (t_cns 10 139 rfl (t_cns 0 121 rfl (t_cns 10 144 rfl (t_cns 10 148 rfl (t_cns 10 152 rfl (t_cns 10 160 rfl (t_cns 10 161 rfl (t_cns 10 163 rfl (t_cns 0 123 rfl (t_cns 10 156 rfl (t_cns 10 157 rfl (t_cns 10 159 rfl (t_cns 0 122 rfl (t_cns 10 168 rfl (t_cns 10 172 rfl (t_cns 10 180 rfl (t_cns 10 176 rfl (t_cns 10 177 rfl (t_cns 10 179 rfl (t_cns 0 124 rfl (t_cns 10 184 rfl (t_cns 10 192 rfl (t_cns 10 188 rfl (t_cns 10 189 rfl (t_cns 10 191 rfl (t_cns 0 125 rfl ((tw_nil [])))))))))))))))))))))))))))))))))))))))))))))))))))))))))))))))))))))))))))))))))))))))))))))))))))))
theorem tM_5 : ∀ w ∈ wsM_5, w ∈ lw_tbl := t_cns 10 196 rfl (t_cns 10 200 rfl (t_cns 10 204 rfl (t_cns 10 208 rfl (t_cns 10 212 rfl ((tw_nil []))))))
theorem tM : ∀ w ∈ wsM, w ∈ lw_tbl := fun w h => (List.mem_append.mp h).elim (fun h => (List.mem_append.mp h).elim (fun h => tM_0 w h) (fun h => (List.mem_append.mp h).elim (fun h => tM_1 w h) (fun h => (List.mem_append.mp h).elim (fun h => tM_2 w h) (fun h => (List.mem_append.mp h).elim (fun h => tM_3 w h) (fun h => (List.mem_append.mp h).elim (fun h => tM_4 w h) (fun h => tM_5 w h)))))) (fun h => tM_x w h)
end
section
/-! 08b.lw.lean.txt -/
theorem glA {cw : Cond} {L : List Cond} (hL : ∀ w ∈ L, w ∈ lw_tbl ∧ goodWord w = true) (hc : cw ∈ lw_tbl ∧ goodWord cw = true) : GoodIn lw_tbl (L ++ (cw :: wsA)) := by
  intro w hw
  have hm : w ∈ lw_tbl ∧ goodWord w = true := by
    rcases List.mem_append.mp hw with h | h
    · exact hL w h
    · rcases List.mem_cons.mp h with rfl | h
      · exact hc
      · exact ⟨tA w h, gA w h⟩
  exact ⟨hm.1, good_of_word hm.2⟩
theorem glM {cw : Cond} {L : List Cond} (hL : ∀ w ∈ L, w ∈ lw_tbl ∧ goodWord w = true) (hc : cw ∈ lw_tbl ∧ goodWord cw = true) : GoodIn lw_tbl (L ++ (cw :: wsM)) := by
  intro w hw
  have hm : w ∈ lw_tbl ∧ goodWord w = true := by
    rcases List.mem_append.mp hw with h | h
    · exact hL w h
    · rcases List.mem_cons.mp h with rfl | h
      · exact hc
      · exact ⟨tM w h, gM w h⟩
  exact ⟨hm.1, good_of_word hm.2⟩
/-- the law's world at a point of its walk -/
def lG (D : va_G) (ad : Nat → Nat) (N : Nat) (cI cJ cZ : ClassId) (am : Nat → Nat) (A : Nat → Prop) (H0 H : Heap) (locs : List Loc) (S : Nat → va_E) (Sm : MS) : Prop := va_P D vwCl (cW ad N S ++ MW cI cJ cZ am Sm) H ∧ va_D A (cW ad N S ++ MW cI cJ cZ am Sm) ∧ va_S A H0 H locs
theorem l_allC (ad : Nat → Nat) (N : Nat) (S : Nat → va_E) (w2 : va_W) : (List.range N).map (fun i => (cW ad N S ++ w2)[i]?) = (cW ad N S).map some := by
  rw [← cW_all ad N S]
  refine List.map_congr_left (fun i hi => ?_)
  exact List.getElem?_append_left (by rw [cW_len]; exact List.mem_range.mp hi)
theorem l_allM (ad : Nat → Nat) (N : Nat) (S : Nat → va_E) (w2 : va_W) : ((List.range w2.length).map (fun j => N + j)).map (fun i => (cW ad N S ++ w2)[i]?) = w2.map some := by
  refine List.ext_getElem? (fun i => ?_)
  rw [List.map_map, List.getElem?_map, List.getElem?_map]
  by_cases h : i < w2.length
  · rw [List.getElem?_range h]
    show some ((cW ad N S ++ w2)[N + i]?) = (w2[i]?).map some
    rw [List.getElem?_append_right (by rw [cW_len]; exact Nat.le_add_right _ _), cW_len, Nat.add_sub_cancel_left, List.getElem?_eq_getElem h]
    rfl
  · rw [List.getElem?_eq_none (by rw [List.length_range]; exact Nat.not_lt.mp h), List.getElem?_eq_none (Nat.not_lt.mp h)]
    rfl
theorem l_ndM (N K : Nat) : va_nd ((List.range K).map (fun j => N + j)) = true := va_nd_of _ (List.pairwise_map.mpr (List.Pairwise.imp (fun h e => h (Nat.add_left_cancel e)) List.nodup_range))
theorem l_disM {N K : Nat} : ∀ i ∈ (List.range K).map (fun j => N + j), i ∉ List.range N := by
  intro i hi hn
  obtain ⟨j, -, rfl⟩ := List.mem_map.mp hi
  exact absurd (List.mem_range.mp hn) (by omega)
theorem l_disC {N K : Nat} : ∀ i ∈ List.range N, i ∉ (List.range K).map (fun j => N + j) := by
  intro i hi hn
  obtain ⟨j, -, rfl⟩ := List.mem_map.mp hn
  exact absurd (List.mem_range.mp hi) (by omega)
theorem l_fm {l ws : List (Nat × va_E)} {is : List Nat} (h : is.map (fun i => l[i]?) = ws.map some) : is.filterMap (fun i => l[i]?) = ws := by
  have h1 : is.filterMap (fun i => l[i]?) = (is.map (fun i => l[i]?)).filterMap id := by rw [List.filterMap_map]; rfl
  rw [h1, h, List.filterMap_map]
  exact List.filterMap_some
section LWR
variable {p : Program} {l : Launch} {e : Env} {R : Room} {s : State} {m : MethodId} {args : Array Value} {below : List Frame} {meth : Method} {c : Code} {H : Heap} {locs : List Loc} {cells slots : Nat} {Q : State → Prop}
variable {cc : ByteArray} {pc : Nat} {ls : Array Slot} {rest : List Value} {D : va_G} {A : Nat → Prop} {H0 : Heap} {Ts : List Cond} {tys : List (ClassId × FieldType)} {ad am : Nat → Nat} {N : Nat} {S : Nat → va_E} {Sm : MS} {cI cJ cZ : ClassId} {own : String}
end LWR
end
section
/-! 08c.perm.lean.txt -/
/-! ===== the law's world in another order: the out arrays beside the class's cells ===== -/
theorem va_P_perm {D : va_G} {cl : List vw_C} {w1 w2 : va_W} {H : Heap} (h : w1.Perm w2) (hP : va_P D cl w1 H) : va_P D cl w2 H := by
  intro k q hk
  obtain ⟨i, hi⟩ := List.getElem?_of_mem (h.symm.subset (List.mem_of_getElem? hk))
  exact hP i q hi
theorem va_D_pw {A : Nat → Prop} {ws : va_W} : va_D A ws ↔ List.Pairwise (fun p q : Nat × va_E => p.1 ≠ q.1) ws ∧ ∀ q ∈ ws, A q.1 := by
  constructor
  · intro h
    refine ⟨List.pairwise_iff_getElem.mpr (fun i j hi hj hij e => ?_), fun q hq => ?_⟩
    · exact absurd (h.1 i j _ _ (List.getElem?_eq_getElem hi) (List.getElem?_eq_getElem hj) e) (Nat.ne_of_lt hij)
    · obtain ⟨i, hi⟩ := List.getElem?_of_mem hq
      exact h.2 i q hi
  · intro h
    refine ⟨fun i j p q hi hj e => ?_, fun k q hk => h.2 q (List.mem_of_getElem? hk)⟩
    obtain ⟨hi1, hi2⟩ := List.getElem?_eq_some_iff.mp hi
    obtain ⟨hj1, hj2⟩ := List.getElem?_eq_some_iff.mp hj
    rcases Nat.lt_trichotomy i j with h1 | h1 | h1
    · exact absurd (by rw [hi2, hj2]; exact e) (List.pairwise_iff_getElem.mp h.1 i j hi1 hj1 h1)
    · exact h1
    · exact absurd (by rw [hi2, hj2]; exact e.symm) (List.pairwise_iff_getElem.mp h.1 j i hj1 hi1 h1)
theorem va_D_perm {A : Nat → Prop} {w1 w2 : va_W} (h : w1.Perm w2) (hD : va_D A w1) : va_D A w2 := by
  obtain ⟨h1, h2⟩ := va_D_pw.mp hD
  exact va_D_pw.mpr ⟨(h.pairwise_iff (fun h => Ne.symm h)).mp h1, fun q hq => h2 q (h.symm.subset hq)⟩
theorem l_perm (w1 w2 w3 : va_W) : (w1 ++ w2 ++ w3).Perm (w1 ++ w3 ++ w2) := by
  rw [List.append_assoc, List.append_assoc]
  exact List.Perm.append_left w1 List.perm_append_comm
/-- cells made at the law: from the order of their making to the class's cells, the out arrays, the reference's -/
theorem l_turn {D : va_G} {A : Nat → Prop} {H0 H : Heap} {locs : List Loc} {ad b f : Nat → Nat} {N M K : Nat} {S T g : Nat → va_E} {cI cJ cZ : ClassId} {am : Nat → Nat} {Sm : MS} (hT : cW b M T = MW cI cJ cZ am Sm) (G : cG D (cat (N + M) (cat N ad b) f) (N + M + K) A H0 H locs (cat (N + M) (cat N S T) g)) : lG D (cat N ad f) (N + K) cI cJ cZ am A H0 H locs (cat N S g) Sm := by
  have e : cW (cat (N + M) (cat N ad b) f) (N + M + K) (cat (N + M) (cat N S T) g) = cW ad N S ++ cW b M T ++ cW f K g := by rw [← cW_cat, ← cW_cat]
  have hp : (cW (cat (N + M) (cat N ad b) f) (N + M + K) (cat (N + M) (cat N S T) g)).Perm (cW (cat N ad f) (N + K) (cat N S g) ++ MW cI cJ cZ am Sm) := by
    rw [e, ← cW_cat, ← hT]
    exact l_perm _ _ _
  exact ⟨va_P_perm hp G.1, va_D_perm hp G.2.1, G.2.2⟩
end
section
/-! 08d.k.lean.txt -/
theorem lk_0 {args : Array Value} {s : State} (hts : ∀ w ∈ lw_tbl, w.before args s = true) : ∃ (cC : ClassId) (iS : Nat → Nat), u_Kn s RX0 TX0 1 cC iS := u_known (n := 1) hts tA_13 (hts _ (t_of [Cond.instantiable RX0 1] [(1, 155)] (by decide +kernel) _ List.mem_cons_self))
theorem lk_1 {args : Array Value} {s : State} (hts : ∀ w ∈ lw_tbl, w.before args s = true) : ∃ (cC : ClassId) (iS : Nat → Nat), u_Kn s RX1 TX1 9 cC iS := u_known (n := 9) hts tA_15 (hts _ (t_of [Cond.instantiable RX1 9] [(2, 54)] (by decide +kernel) _ List.mem_cons_self))
theorem lk_2 {args : Array Value} {s : State} (hts : ∀ w ∈ lw_tbl, w.before args s = true) : ∃ (cC : ClassId) (iS : Nat → Nat), u_Kn s RX2 TX2 4 cC iS := u_known (n := 4) hts tA_19 (hts _ (t_of [Cond.instantiable RX2 4] [(2, 106)] (by decide +kernel) _ List.mem_cons_self))
theorem lk_3 {args : Array Value} {s : State} (hts : ∀ w ∈ lw_tbl, w.before args s = true) : ∃ (cC : ClassId) (iS : Nat → Nat), u_Kn s RX3 TX3 4 cC iS := u_known (n := 4) hts tA_17 (hts _ (t_of [Cond.instantiable RX3 4] [(1, 69)] (by decide +kernel) _ List.mem_cons_self))
theorem lk_4 {args : Array Value} {s : State} (hts : ∀ w ∈ lw_tbl, w.before args s = true) : ∃ (cC : ClassId) (iS : Nat → Nat), u_Kn s RX4 TX4 6 cC iS := u_known (n := 6) hts tA_21 (hts _ (t_of [Cond.instantiable RX4 6] [(1, 190)] (by decide +kernel) _ List.mem_cons_self))
theorem lk_5 {args : Array Value} {s : State} (hts : ∀ w ∈ lw_tbl, w.before args s = true) : ∃ (cC : ClassId) (iS : Nat → Nat), u_Kn s RX5 TX5 2 cC iS := u_known (n := 2) hts tA_22 (hts _ (t_of [Cond.instantiable RX5 2] [(1, 90)] (by decide +kernel) _ List.mem_cons_self))
theorem lk_6 {args : Array Value} {s : State} (hts : ∀ w ∈ lw_tbl, w.before args s = true) : ∃ (cC : ClassId) (iS : Nat → Nat), u_Kn s RX6 TX6 18 cC iS := u_known (n := 18) hts tA_14 (hts _ (t_of [Cond.instantiable RX6 18] [(2, 46)] (by decide +kernel) _ List.mem_cons_self))
theorem lk_7 {args : Array Value} {s : State} (hts : ∀ w ∈ lw_tbl, w.before args s = true) : ∃ (cC : ClassId) (iS : Nat → Nat), u_Kn s RX7 TX7 10 cC iS := u_known (n := 10) hts tA_20 (hts _ (t_of [Cond.instantiable RX7 10] [(1, 98)] (by decide +kernel) _ List.mem_cons_self))
theorem lk_8 {args : Array Value} {s : State} (hts : ∀ w ∈ lw_tbl, w.before args s = true) : ∃ (cC : ClassId) (iS : Nat → Nat), u_Kn s RX8 TX8 12 cC iS := u_known (n := 12) hts tA_16 (hts _ (t_of [Cond.instantiable RX8 12] [(1, 220)] (by decide +kernel) _ List.mem_cons_self))
theorem lk_9 {args : Array Value} {s : State} (hts : ∀ w ∈ lw_tbl, w.before args s = true) : ∃ (cC : ClassId) (iS : Nat → Nat), u_Kn s RX9 TX9 6 cC iS := u_known (n := 6) hts tA_18 (hts _ (t_of [Cond.instantiable RX9 6] [(1, 37)] (by decide +kernel) _ List.mem_cons_self))
theorem lk_10 {args : Array Value} {s : State} (hts : ∀ w ∈ lw_tbl, w.before args s = true) : ∃ (cC : ClassId) (iS : Nat → Nat), u_Kn s RX10 TX10 3 cC iS := u_known (n := 3) hts tA_12 (hts _ (t_of [Cond.instantiable RX10 3] [(1, 161)] (by decide +kernel) _ List.mem_cons_self))
theorem lk_11 {args : Array Value} {s : State} (hts : ∀ w ∈ lw_tbl, w.before args s = true) : ∃ (cC : ClassId) (iS : Nat → Nat), u_Kn s RX11 TX11 19 cC iS := u_known (n := 19) hts tA_23 (hts _ (t_of [Cond.instantiable RX11 19] [(1, 29)] (by decide +kernel) _ List.mem_cons_self))
theorem lk_12 {args : Array Value} {s : State} (hts : ∀ w ∈ lw_tbl, w.before args s = true) : ∃ (cC : ClassId) (iS : Nat → Nat), u_Kn s RX12 TX12 30 cC iS := u_known (n := 30) hts tM_x (hts _ (t_of [Cond.instantiable RX12 30] [(7, 209)] (by decide +kernel) _ List.mem_cons_self))
theorem kn_prim {args : Array Value} {s : State} {ty : FieldType} (h : (Cond.arrayClass ty).before args s = true) (hr : ∀ cA, s.vm.findClass ("[" ++ ty.toString) = some cA → va_RA s cA ty) : ∃ cA : ClassId, ArrOfT s cA ty ∧ va_RA s cA ty := by
  obtain ⟨cA, kA, comp, h1, h2, h3⟩ := Cond.arrayClass_spec h
  exact ⟨cA, fun n z => ⟨fun k h => (by cases h), kA, h2, comp, h3⟩, hr cA h1⟩
theorem kn_obj {args : Array Value} {s : State} {C : String} (h : (Cond.arrayOver (.object C)).before args s = true) : ∃ cA : ClassId, ArrOfT s cA (.object C) ∧ va_RA s cA (.object C) := by
  obtain ⟨comp, cA, kA, f1, f4, f2, f3, f5⟩ := Cond.arrayOver_spec h
  exact ⟨cA, fun n z => ⟨fun k h => (by cases h), kA, f2, comp, f3⟩, kA, comp, f2, f3, f1, f5⟩
theorem kn_arr {args : Array Value} {s : State} {t : FieldType} (h : (Cond.arrayOver (.array t)).before args s = true) : ∃ cA : ClassId, ArrOfT s cA (.array t) ∧ va_RA s cA (.array t) := by
  obtain ⟨comp, cA, kA, f1, f2, f3, f4⟩ := Cond.arrayOver_specA h
  exact ⟨cA, fun n z => ⟨fun k h => (by cases h), kA, f2, comp, f3⟩, f4⟩
theorem kn_one {D : va_G} {cl : List vw_C} {s : State} {cA : ClassId} {ty : FieldType} (h1 : ∀ (c : Nat) (q : vw_C), cl[c]? = some q → u_Kn s q.1 q.2.1 q.2.2 (D.1 c) (D.2 c)) (h : ArrOfT s cA ty ∧ va_RA s cA ty) : va_K D cl [(cA, ty)] s := by
  refine ⟨h1, fun k q hk => ?_⟩
  cases k with
  | zero => cases hk; exact h
  | succ k => cases hk
theorem l_D {args : Array Value} {s : State} (hts : ∀ w ∈ lw_tbl, w.before args s = true) : ∃ D : va_G, ∀ (c : Nat) (q : vw_C), vwCl[c]? = some q → u_Kn s q.1 q.2.1 q.2.2 (D.1 c) (D.2 c) := by
  have H : ∀ c : Nat, ∃ y : ClassId × (Nat → Nat), ∀ q : vw_C, vwCl[c]? = some q → u_Kn s q.1 q.2.1 q.2.2 y.1 y.2 := by
    intro c
    match c with
    | 0 => obtain ⟨cC, iS, h⟩ := lk_0 hts; exact ⟨(cC, iS), fun q hq => by cases hq; exact h⟩
    | 1 => obtain ⟨cC, iS, h⟩ := lk_1 hts; exact ⟨(cC, iS), fun q hq => by cases hq; exact h⟩
    | 2 => obtain ⟨cC, iS, h⟩ := lk_2 hts; exact ⟨(cC, iS), fun q hq => by cases hq; exact h⟩
    | 3 => obtain ⟨cC, iS, h⟩ := lk_3 hts; exact ⟨(cC, iS), fun q hq => by cases hq; exact h⟩
    | 4 => obtain ⟨cC, iS, h⟩ := lk_4 hts; exact ⟨(cC, iS), fun q hq => by cases hq; exact h⟩
    | 5 => obtain ⟨cC, iS, h⟩ := lk_5 hts; exact ⟨(cC, iS), fun q hq => by cases hq; exact h⟩
    | 6 => obtain ⟨cC, iS, h⟩ := lk_6 hts; exact ⟨(cC, iS), fun q hq => by cases hq; exact h⟩
    | 7 => obtain ⟨cC, iS, h⟩ := lk_7 hts; exact ⟨(cC, iS), fun q hq => by cases hq; exact h⟩
    | 8 => obtain ⟨cC, iS, h⟩ := lk_8 hts; exact ⟨(cC, iS), fun q hq => by cases hq; exact h⟩
    | 9 => obtain ⟨cC, iS, h⟩ := lk_9 hts; exact ⟨(cC, iS), fun q hq => by cases hq; exact h⟩
    | 10 => obtain ⟨cC, iS, h⟩ := lk_10 hts; exact ⟨(cC, iS), fun q hq => by cases hq; exact h⟩
    | 11 => obtain ⟨cC, iS, h⟩ := lk_11 hts; exact ⟨(cC, iS), fun q hq => by cases hq; exact h⟩
    | 12 => obtain ⟨cC, iS, h⟩ := lk_12 hts; exact ⟨(cC, iS), fun q hq => by cases hq; exact h⟩
    | (c + 13) => exact ⟨(0, fun _ => 0), fun q hq => absurd (List.getElem?_eq_some_iff.mp hq).1 (by show ¬ c + 13 < 13; omega)⟩
  obtain ⟨f, hf⟩ := Classical.axiomOfChoice H
  exact ⟨(fun c => (f c).1, fun c => (f c).2), hf⟩
theorem l_K {args : Array Value} {s : State} (hts : ∀ w ∈ lw_tbl, w.before args s = true) : ∃ (D : va_G) (cI cJ cZ cMic cSrc cSt cAI cAJ cD : ClassId), va_K D vwCl (CT cI cJ cZ cMic cSrc cSt cAI cAJ ++ [(cD, .double)]) s := by
  obtain ⟨D, hD⟩ := l_D hts
  obtain ⟨cI, hcI⟩ := kn_prim (hts _ (t_of [Cond.arrayClass .int] [(1, 67)] (by decide +kernel) _ List.mem_cons_self)) (fun cA h => h)
  obtain ⟨cJ, hcJ⟩ := kn_prim (hts _ (t_of [Cond.arrayClass .long] [(1, 183)] (by decide +kernel) _ List.mem_cons_self)) (fun cA h => h)
  obtain ⟨cZ, hcZ⟩ := kn_prim (hts _ (t_of [Cond.arrayClass .boolean] [(2, 41)] (by decide +kernel) _ List.mem_cons_self)) (fun cA h => h)
  obtain ⟨cMic, hcMic⟩ := kn_obj (hts _ (t_of [Cond.arrayOver (.object "AcousticCamera$Mic")] [(2, 52)] (by decide +kernel) _ List.mem_cons_self))
  obtain ⟨cSrc, hcSrc⟩ := kn_obj (hts _ (t_of [Cond.arrayOver (.object "AcousticCamera$Source")] [(2, 104)] (by decide +kernel) _ List.mem_cons_self))
  obtain ⟨cSt, hcSt⟩ := kn_obj (hts _ (t_of [Cond.arrayOver (.object "AcousticCamera$State")] [(2, 42)] (by decide +kernel) _ List.mem_cons_self))
  obtain ⟨cAI, hcAI⟩ := kn_arr (hts _ (t_of [Cond.arrayOver (.array .int)] [(1, 96)] (by decide +kernel) _ List.mem_cons_self))
  obtain ⟨cAJ, hcAJ⟩ := kn_arr (hts _ (t_of [Cond.arrayOver (.array .long)] [(1, 167)] (by decide +kernel) _ List.mem_cons_self))
  obtain ⟨cD, hcD⟩ := kn_prim (hts _ (t_of [Cond.arrayClass .double] [(10, 213)] (by decide +kernel) _ List.mem_cons_self)) (fun cA h => h)
  exact ⟨D, cI, cJ, cZ, cMic, cSrc, cSt, cAI, cAJ, cD, ((kn_one hD hcI).app ((kn_one hD hcJ).app ((kn_one hD hcZ).app ((kn_one hD hcMic).app ((kn_one hD hcSrc).app ((kn_one hD hcSt).app ((kn_one hD hcAI).app ((kn_one hD hcAJ).app (kn_one hD hcD)))))))))⟩
theorem l_nX {args : Array Value} {s : State} (hts : ∀ w ∈ lw_tbl, w.before args s = true) : nX s := by
  have h := t_of xN [(1, 38), (1, 91), (1, 99), (1, 156), (1, 191), (1, 221), (2, 55), (2, 107), (2, 131), (4, 152), (4, 163), (4, 174), (4, 177), (4, 193), (4, 208), (4, 212), (4, 214), (6, 204)] (by decide +kernel)
  exact ⟨hts _ (t_of [Cond.arrayOver (.object "AcousticCamera$Mic")] [(2, 52)] (by decide +kernel) _ List.mem_cons_self), hts _ (t_of [Cond.arrayOver (.object "AcousticCamera$Source")] [(2, 104)] (by decide +kernel) _ List.mem_cons_self), hts _ (t_of [Cond.arrayOver (.object "AcousticCamera$State")] [(2, 42)] (by decide +kernel) _ List.mem_cons_self), hts _ (t_of [Cond.arrayOver (.array .int)] [(1, 96)] (by decide +kernel) _ List.mem_cons_self), hts _ (t_of [Cond.arrayOver (.array .long)] [(1, 167)] (by decide +kernel) _ List.mem_cons_self), fun w hw => va_tabs (xN_tab w hw) rfl (hts w (h w hw))⟩
end
section
/-! 08e.op.lean.txt -/
theorem dL_law_0 : decode cL_law 0 = .ok (.new 8, 3) := by decide +kernel
theorem dL_law_3 : decode cL_law 3 = .ok (.dup, 1) := by decide +kernel
theorem dL_law_4 : decode cL_law 4 = .ok (.invokespecial 189, 3) := by decide +kernel
theorem dL_law_7 : decode cL_law 7 = .ok (.astore_n 1, 1) := by decide +kernel
theorem dL_law_8 : decode cL_law 8 = .ok (.new 190, 3) := by decide +kernel
theorem dL_law_11 : decode cL_law 11 = .ok (.dup, 1) := by decide +kernel
theorem dL_law_12 : decode cL_law 12 = .ok (.invokespecial 192, 3) := by decide +kernel
theorem dL_law_15 : decode cL_law 15 = .ok (.astore_n 2, 1) := by decide +kernel
theorem dL_law_16 : decode cL_law 16 = .ok (.iconst 1, 1) := by decide +kernel
theorem dL_law_17 : decode cL_law 17 = .ok (.newarray .long, 2) := by decide +kernel
theorem dL_law_19 : decode cL_law 19 = .ok (.astore_n 3, 1) := by decide +kernel
theorem dL_law_20 : decode cL_law 20 = .ok (.iconst 1, 1) := by decide +kernel
theorem dL_law_21 : decode cL_law 21 = .ok (.newarray .double, 2) := by decide +kernel
theorem dL_law_23 : decode cL_law 23 = .ok (.astore 4, 2) := by decide +kernel
theorem dL_law_25 : decode cL_law 25 = .ok (.iconst 0, 1) := by decide +kernel
theorem dL_law_26 : decode cL_law 26 = .ok (.istore 5, 2) := by decide +kernel
theorem cat_z {α : Type} {f g : Nat → α} : cat 0 f g = g := by
  funext n
  rw [cat_hi (Nat.zero_le n), Nat.sub_zero]
set_option maxHeartbeats 8000000 in
set_option maxRecDepth 100000 in
theorem l_open {p : Program} {e : Env} {s : State} {m : MethodId} {below : List Frame} {meth : Method} {c : Code} (l : Launch) {b : Nat} {Q : State → Prop} (hx : p.tables.exec = Jvm.exec) (hb : c.code = code) (hml : c.maxLocals = 9) (hown : s.vm.findClass RL = some m.cls) (hts : ∀ w ∈ lw_tbl, w.before #[Value.ref b] s = true)
    (kk : ∀ (D : va_G) (cI cJ cZ cMic cSrc cSt cAI cAJ cD : ClassId) (ad am : Nat → Nat) (S : Nat → va_E) (ls : Array Slot) (H : Heap) (locs : List Loc), va_K D vwCl (CT cI cJ cZ cMic cSrc cSt cAI cAJ ++ [(cD, .double)]) s → (S 0 = iX11_0 cI cJ cZ cMic cSrc cSt cAI cAJ ad ∧ S 6 = iX11_6 cI cJ cZ cMic cSrc cSt cAI cAJ ad ∧ S 430 = iX11_430 cI cJ cZ cMic cSrc cSt cAI cAJ ad ∧ S 431 = iX11_431 cI cJ cZ cMic cSrc cSt cAI cAJ ad ∧ ∃ bs, BL cI cJ cZ cMic cSrc cSt cAI cAJ 21 ad S bs) → lG D (cat 1586 ad (fun n => bif Nat.beq n 0 then am 98 else am 99)) 1588 cI cJ cZ am (fun q => s.heap.size ≤ q) s.heap H locs (cat 1586 S (fun n => bif Nat.beq n 0 then .inl (cJ, 1, .inr (.inl (fun _ => 0))) else .inl (cD, 1, .inr (.inr (.inr (.inl (fun _ => 0))))))) mS0 → lv_has ls 9 [(5, .int 0), (4, .ref (am 99)), (3, .ref (am 98)), (2, .ref (am 0)), (1, .ref (ad 0)), (0, .ref b)] → W p l e room_1 s m #[Value.ref b] below meth c H locs 1605 82603 Q (F0 m 28 ls [])) :
    W p l e room_1 s m #[Value.ref b] below meth c s.heap [] 0 0 Q (entryFrame m ([Value.ref b] : List Value).toArray 9) := by
  obtain ⟨D, cI, cJ, cZ, cMic, cSrc, cSt, cAI, cAJ, cD, hK⟩ := l_K hts
  have hxs := l_nX hts
  have E : cE p c cL_law s m #[Value.ref b] lw_tbl D RL (CT cI cJ cZ cMic cSrc cSt cAI cAJ ++ [(cD, .double)]) := ⟨hx, hb, hts, hown, hK⟩
  have E1 : cE p c cL_law s m #[Value.ref b] lw_tbl D RL (CT cI cJ cZ cMic cSrc cSt cAI cAJ) := ⟨hx, hb, hts, hown, hK.sub [0, 1, 2, 3, 4, 5, 6, 7] rfl⟩
  have E2 : cE p c cL_law s m #[Value.ref b] lw_tbl D RL (MT cI cJ cZ) := ⟨hx, hb, hts, hown, hK.sub [0, 1, 2] rfl⟩
  have hA : ∀ q : Nat, s.heap.size ≤ q → s.heap.size ≤ q := fun _ h => h
  have G : cG D (fun _ => 0) 0 (fun q => s.heap.size ≤ q) s.heap s.heap [] (fun _ => .inr (0, [])) := ⟨fun k q h => (by cases h), ⟨fun i j p q h _ _ => (by cases h), fun k q h => (by cases h)⟩, va_S.rf⟩
  have hl := lv_entry ([.ref b]) (n := 9) (Nat.le_of_ble_eq_true rfl)
  rw [lg_entry_eq]
  generalize (lg_sl ([.ref b]) ++ List.replicate (9 - (lg_sl ([.ref b])).length) Slot.unset).toArray = ls at hl ⊢
  have hl : lv_has ls 9 [(0, .ref b)] := hl
  refine n_new E G hA (ci := 11) (fs := [.null, .null, .null, .null, .null, .null, .null, .null, .null, .null, .null, .null, .null, .null, .null, .null, .int 0, .int 0, .int 0]) tA_23 tyX11 tyX11_ok (t_of [Cond.classLink RL 8 RX11] [(1, 28)] (by decide +kernel) _ List.mem_cons_self) (t_of [Cond.instantiable RX11 19] [(1, 29)] (by decide +kernel) _ List.mem_cons_self) (t_of [Cond.initialized RX11] [(1, 1)] (by decide +kernel) _ List.mem_cons_self) rfl (by decide) (Nat.le_of_ble_eq_true rfl) (Nat.le_of_ble_eq_true rfl) dL_law_0 (fun q1 H G => ?_)
  refine lv_dup hx hb dL_law_3 rfl ?_
  refine n_init (N := 0) E1 G hA hxs nX.moved hml (n_X11 l D cI cJ cZ cMic cSrc cSt cAI cAJ) (cwI 0 hts (glA (L := []) (fun _ h => absurd h List.not_mem_nil) ⟨(t_of [Cond.code yX11_init cX11_init 2 none] [(1, 32)] (by decide +kernel) _ List.mem_cons_self), List.all_eq_true.mp (by decide +kernel : [Cond.code yX11_init cX11_init 2 none].all goodWord = true) _ List.mem_cons_self⟩) rfl rfl rfl (hts _ (t_of [Cond.initialized RX11] [(1, 1)] (by decide +kernel) _ List.mem_cons_self)) (hts _ (t_of [Cond.methodLink RL 189 yX11_init] [(1, 30)] (by decide +kernel) _ List.mem_cons_self)) (hts _ (t_of [Cond.instanceMethod yX11_init] [(1, 31)] (by decide +kernel) _ List.mem_cons_self)) rfl (by decide +kernel) ⟨Nat.le_of_ble_eq_true rfl, Nat.le_of_ble_eq_true rfl⟩) (cat_hi (Nat.le_refl _)) (cat_hi (Nat.le_refl _)) hl.1 (lv_room (Nat.le_of_ble_eq_true rfl)) dL_law_4 ⟨Nat.le_of_ble_eq_true rfl, Nat.le_of_ble_eq_true rfl⟩ (fun ad S H locs hb1 hT1 G => ?_)
  subst hb1
  rw [cat_cat, cat_cat] at G
  rw [cat_z, cat_z] at G
  refine lv_astore_n (lv' := [(1, .ref (ad 0)), (0, .ref b)]) hx hb dL_law_7 rfl hl (by decide) rfl (fun ls hl => ?_)
  refine n_new E G hA (ci := 12) (fs := [.int 0, .null, .int 0, .int 0, .int 0, .int 0, .int 0, .int 0, .int 0, .int 0, .null, .null, .null, .null, .null, .null, .null, .null, .null, .int 0, .int 0, .int 0, .int 0, .null, .null, .null, .null, .null, .int 0, .null]) tM_x tyX12 tyX12_ok (t_of [Cond.classLink RL 190 RX12] [(7, 208)] (by decide +kernel) _ List.mem_cons_self) (t_of [Cond.instantiable RX12 30] [(7, 209)] (by decide +kernel) _ List.mem_cons_self) (t_of [Cond.initialized RX12] [(1, 14)] (by decide +kernel) _ List.mem_cons_self) rfl (by decide) (Nat.le_of_ble_eq_true rfl) (Nat.le_of_ble_eq_true rfl) dL_law_8 (fun q2 H G => ?_)
  refine lv_dup hx hb dL_law_11 rfl ?_
  refine n_init (N := 1586) E2 G hA trivial (fun _ _ _ _ => trivial) hml (m_init l D cI cJ cZ) (cwI 0 hts (glM (L := []) (fun _ h => absurd h List.not_mem_nil) ⟨(t_of [Cond.code yX12_init cX12_init 1 none] [(7, 212)] (by decide +kernel) _ List.mem_cons_self), List.all_eq_true.mp (by decide +kernel : [Cond.code yX12_init cX12_init 1 none].all goodWord = true) _ List.mem_cons_self⟩) rfl rfl rfl (hts _ (t_of [Cond.initialized RX12] [(1, 14)] (by decide +kernel) _ List.mem_cons_self)) (hts _ (t_of [Cond.methodLink RL 192 yX12_init] [(7, 210)] (by decide +kernel) _ List.mem_cons_self)) (hts _ (t_of [Cond.instanceMethod yX12_init] [(7, 211)] (by decide +kernel) _ List.mem_cons_self)) rfl (by decide +kernel) ⟨Nat.le_of_ble_eq_true rfl, Nat.le_of_ble_eq_true rfl⟩) (cat_hi (Nat.le_refl _)) (cat_hi (Nat.le_refl _)) hl.1 (lv_room (Nat.le_of_ble_eq_true rfl)) dL_law_12 ⟨Nat.le_of_ble_eq_true rfl, Nat.le_of_ble_eq_true rfl⟩ (fun b2 T H locs hb2 hT2 G => ?_)
  subst hb2
  rw [cat_cat, cat_cat] at G
  refine lv_astore_n (lv' := [(2, .ref (b2 0)), (1, .ref (ad 0)), (0, .ref b)]) hx hb dL_law_15 rfl hl (by decide) rfl (fun ls hl => ?_)
  refine lv_iconst (v := 1) hx hb dL_law_16 (by decide) ?_
  refine n_newl E G hA 1 (K := 1) (t_of [Cond.arrayClass .long] [(1, 183)] (by decide +kernel) _ List.mem_cons_self) rfl rfl (by decide) (Nat.le_of_ble_eq_true rfl) (Nat.le_of_ble_eq_true rfl) dL_law_17 (fun q3 H G => ?_)
  refine lv_astore_n (lv' := [(3, .ref q3), (2, .ref (b2 0)), (1, .ref (ad 0)), (0, .ref b)]) hx hb dL_law_19 rfl hl (by decide) rfl (fun ls hl => ?_)
  refine lv_iconst (v := 1) hx hb dL_law_20 (by decide) ?_
  refine va_newa (atype := .double) (ty := .double) E.1 E.2.1 (E.2.2.1 _ (t_of [Cond.arrayClass .double] [(10, 213)] (by decide +kernel) _ List.mem_cons_self)) rfl E.2.2.2.2 G.1 G.2.1 G.2.2 hA (a0 := (1, .inr (.inr (.inr (.inl (fun _ => 0)))))) (fun _ => rfl) (by decide) (by decide) (by decide) (Nat.le_of_ble_eq_true rfl) (Nat.le_of_ble_eq_true rfl) dL_law_21 (fun q4 cB H k1 g1 g2 g3 => ?_)
  have e4 : cB = cD := Option.some.inj ((va_nm_double (k1.2 9 (cB, .double) rfl).2).symm.trans (va_nm_double (hK.2 8 _ rfl).2))
  subst e4
  have G := cG_push g1 g2 g3
  refine lv_astore (lv' := [(4, .ref q4), (3, .ref q3), (2, .ref (b2 0)), (1, .ref (ad 0)), (0, .ref b)]) hx hb dL_law_23 hl (by decide) rfl (fun ls hl => ?_)
  refine lv_iconst (v := 0) hx hb dL_law_25 (by decide) ?_
  refine lv_istore (lv' := [(5, .int 0), (4, .ref q4), (3, .ref q3), (2, .ref (b2 0)), (1, .ref (ad 0)), (0, .ref b)]) hx hb dL_law_26 hl (by decide) rfl (fun ls hl => ?_)
  have e5 : ∀ {α : Type} (f : Nat → α) (x y : α), cat 1604 (cat 1603 f (fun _ => x)) (fun _ => y) = cat 1603 f (fun n => bif Nat.beq n 0 then x else y) := by
    intro α f x y
    funext n
    by_cases h1 : n < 1603
    · rw [cat_lo (Nat.lt_succ_of_lt h1), cat_lo h1, cat_lo h1]
    · by_cases h2 : n < 1604
      · rw [cat_lo h2, cat_hi (Nat.not_lt.mp h1), cat_hi (Nat.not_lt.mp h1), show n - 1603 = 0 by omega]
        rfl
      · rw [cat_hi (Nat.not_lt.mp h2), cat_hi (Nat.not_lt.mp h1)]
        obtain ⟨k, hk⟩ : ∃ k, n - 1603 = k + 1 := ⟨n - 1604, by omega⟩
        rw [hk]
        rfl
  rw [e5, e5] at G
  have G := l_turn (K := 2) (am := va_up (va_up (mAd b2) 98 q3) 99 q4) (by rw [hT2]; rfl) G
  exact kk D cI cJ cZ cMic cSrc cSt cAI cAJ _ ad (va_up (va_up (mAd b2) 98 q3) 99 q4) S ls H locs hK hT1 G hl
end
section
/-! 08f.x.lean.txt -/
theorem l_X {b : Nat} {s : State} (hts : ∀ w ∈ lw_tbl, w.before #[Value.ref b] s = true) (hg : (Jvm.Cond.and given_1 narrow_1).before #[Value.ref b] s = true) : xT (fun q => s.heap.size ≤ q) s ∧ va_Nc xIAE xIOB s ∧ va_Nc xISE xIOB s := by
  have hs := flat_of_before _ hg
  have hw := t_of xB [(3, 136), (5, 34), (3, 103), (4, 23), (3, 104), (3, 106), (3, 108)] (by decide +kernel)
  have hz := t_of (sL.map (fun x => Cond.stringRef x.1 x.2.1 x.2.2)) [(3, 196), (4, 37), (4, 46), (4, 47), (4, 48), (4, 53), (4, 66), (4, 75), (4, 84), (4, 85), (4, 86), (4, 87), (4, 88), (4, 89), (4, 94), (4, 95), (4, 108), (4, 113), (4, 118), (4, 127), (8, 119), (8, 138), (8, 151), (8, 152), (8, 153), (8, 162), (8, 171), (8, 176), (8, 181), (8, 186), (8, 191), (8, 196), (8, 201), (8, 206), (8, 211), (8, 216), (8, 217), (8, 218), (8, 219), (8, 220)] (by decide +kernel)
  have he : ∀ x ∈ sL, (Cond.exactly (.string x.1 x.2.1) "java/lang/String").before #[Value.ref b] s = true := fun x hx => hs _ (List.all_eq_true.mp (by decide +kernel : sL.all (fun x => decide (Cond.exactly (.string x.1 x.2.1) "java/lang/String" ∈ flatC (Jvm.Cond.and given_1 narrow_1))) = true) x hx |> of_decide_eq_true)
  have hR : sR s := fun x hx => by
    obtain ⟨a, c, cA, kA, q1, -⟩ := Cond.exactly_spec (args := #[Value.ref b]) (first := s) (o := none) (s := s) (idx := []) (t := .string x.1 x.2.1) (cls := "java/lang/String") (he x hx)
    exact ⟨a, vk_R.of (hts _ (hz _ (List.mem_map_of_mem hx))) q1⟩
  exact ⟨⟨vx_Zqof (hts _ (t_of [Cond.laysStatic "java/lang/Throwable" "UNASSIGNED_STACK" "[Ljava/lang/StackTraceElement;"] [(3, 128)] (by decide +kernel) _ List.mem_cons_self)) (hts _ (t_of [Cond.initialized "java/lang/Throwable"] [(1, 15)] (by decide +kernel) _ List.mem_cons_self)) (hs _ (by decide +kernel)) (fun a h h2 => absurd h (Nat.not_lt.mpr h2)), vx_Zqof (hts _ (t_of [Cond.laysStatic "java/lang/Throwable" "SUPPRESSED_SENTINEL" "Ljava/util/List;"] [(3, 130)] (by decide +kernel) _ List.mem_cons_self)) (hts _ (t_of [Cond.initialized "java/lang/Throwable"] [(1, 15)] (by decide +kernel) _ List.mem_cons_self)) (hs _ (by decide +kernel)) (fun a h h2 => absurd h (Nat.not_lt.mpr h2)), fun w h => va_Nw.of (xB_tab w h) (hts w (hw w h)), l_nX hts, hR⟩, va_Nc.of (hs _ (by decide +kernel)), va_Nc.of (hs _ (by decide +kernel))⟩
end
section
/-! 08j.lw.lean.txt -/
/-! THE CLAIM OUT OF ONE WALK OF THE LAW'S BODY. Your part is whole_start (and what it stands on); all else here is the same for every law, but numbers. -/
def R_law : String := "AcousticCameraLaw"
def lw_P (b : Addr) (xs : List Int32) (args : Array Value) (s : State) : Prop := args = #[.ref b] ∧ s.IntsAt b xs ∧ xs.length ≤ 3072 ∧ (Jvm.Cond.and given_1 narrow_1).before args s = true
/-- what a walk over the start with the record d0 says of its end, said of the start itself -/
theorem lw_closed {s t : State} {o : Outcome} {d0 : Drawn} {L : List Loc} {k n : Nat} (hd0 : s.drawn.sameBut d0 lw_cs) (hv : ∃ v, o = .returned v) (hW : (s.setDrawn d0).WarmedH t.vm) (hs : (s.setDrawn d0).sameButNew ({ t with vm := s.vm } : State) L k n) : State.butDraws s t lw_cs (fun t1 => Framed s o t1 L k n) := by
  have h2 : t.drawn = d0 := congrArg State.drawn hs.1
  refine ⟨⟨hv, hW, State.sameButNew.setDrawn hs s.drawn⟩, ?_, by decide⟩
  rw [h2]
  exact hd0
def lw_Q (_ : Array Value) (s : State) (o : Outcome) (t : State) : Prop := o = .returned (some (.int 1)) ∧ State.butDraws s t lw_cs (fun t1 => Framed s o t1 [] 601024 7293034)
def lw_Z (below : List Frame) (a : Array Value) (s : State) : State → Prop := fun t => ∃ o, t.status = .running ∧ Ended t below o ∧ lw_Q a s o t
/-- the law's own end, with 1 on the stack, nothing written that was there before, its room as the claim has it; d0: the record of draws at this point (at the entry s.drawn: begin with 'refine W.base ?_' and 'have hd0 := Drawn.sameBut.refl s.drawn lw_cs') -/
theorem lw_ret {p : Program} {l : Launch} {e : Env} {s : State} {m : MethodId} {below : List Frame} {meth : Method} {c : Code} {b : Nat} {d0 : Drawn} (hd0 : s.drawn.sameBut d0 lw_cs) (hx : p.tables.exec = Jvm.exec) (hb : c.code = code) (hr : meth.sig.returnType = ret) (hlocks : meth.locks = false) {pc : Nat} {H : Heap} {ls : Array Slot} (hdg : decode code pc = .ok (.ireturn, 1)) : W p l e room_1 (s.setDrawn d0) m #[Value.ref b] below meth c H [] 601024 7293034 (lw_Z below #[Value.ref b] s) (F0 m pc ls [.int 1]) := by
  intro T hT X
  obtain ⟨fs, hret, hrun, hended, hW, hframe⟩ := X.leave (v := some (.int 1)) (hlocks := hlocks) (fun h => by rw [hr] at h; cases h)
  have hmeth' : T.vm.method? m = some meth := X.method'
  refine ⟨T.setFrames fs, ?_, .returned (some (.int 1)), hrun, hended, rfl, lw_closed hd0 ⟨_, rfl⟩ hW hframe⟩
  jvm_step X.here [X.here.top, hx, hb, hdg, hmeth', hr, ret, narrow_b1]
  (try refine ⟨rfl, ?_⟩); (try refine ⟨rfl, ?_⟩)
  first | (intro acts; rw [hret _ acts rfl rfl rfl]) | rw [hret _ _ rfl rfl rfl]
  exact Steps.refl _
/-- what holds at the law's entry: the machine, the code, the tables' words (any of lw_tbl by 'hts w (by decide +kernel)'), the script of L ints xs at the cell b, what the Statement gives of the start (any of its parts by flat_of_before) -/
def lw_At (p : Program) (s : State) (m : MethodId) (meth : Method) (c : Code) (b L : Nat) (xs : Nat → Int32) : Prop :=
  p.tables.exec = Jvm.exec ∧ c.code = code ∧ meth.sig.returnType = ret ∧ c.maxLocals = 9 ∧ s.vm.findClass R_law = some m.cls ∧ (∀ w ∈ lw_tbl, w.before #[Value.ref b] s = true) ∧ va_X b L xs s s.heap ∧ b < s.heap.size ∧ meth.locks = false ∧ (Jvm.Cond.and given_1 narrow_1).before #[Value.ref b] s = true
end
section
/-! 11a.dec0.lean.txt -/
def elet {α β : Type} (x : α) (f : α → Option β) : Option β := f x
def oif {β : Type} (c : Prop) [Decidable c] (x : Option β) : Option β := if c then x else none
def obind {α β : Type} (x : Option α) (f : α → Option β) : Option β := match x with
  | none => none
  | some a => f a
def obind2 {α β γ : Type} (x : Option (α × β)) (f : α → β → Option γ) : Option γ := match x with
  | none => none
  | some (a, b) => f a b
theorem elet_some {α β : Type} {x : α} {f : α → Option β} {y : β} (h : elet x f = some y) : ∃ v, v = x ∧ f v = some y := ⟨x, rfl, h⟩
theorem elet_at {α β : Type} {x v : α} {f : α → Option β} {y : β} (e : v = x) (h : elet x f = some y) : f v = some y := by rw [e]; exact h
theorem oif_some {β : Type} {c : Prop} [Decidable c] {x : Option β} {y : β} (h : oif c x = some y) : c ∧ x = some y := by
  unfold oif at h
  by_cases hc : c
  · rw [if_pos hc] at h
    exact ⟨hc, h⟩
  · rw [if_neg hc] at h
    cases h
theorem oif_pos {β : Type} {c : Prop} [Decidable c] {x z : Option β} {y : β} (hc : c) (h : (if c then x else z) = some y) : x = some y := by rw [if_pos hc] at h; exact h
theorem oif_neg {β : Type} {c : Prop} [Decidable c] {x z : Option β} {y : β} (hc : ¬ c) (h : (if c then x else z) = some y) : z = some y := by rw [if_neg hc] at h; exact h
theorem obind_some {α β : Type} {x : Option α} {f : α → Option β} {y : β} (h : obind x f = some y) : ∃ a, x = some a ∧ f a = some y := by
  cases x with
  | none => cases h
  | some a => exact ⟨a, rfl, h⟩
theorem obind2_some {α β γ : Type} {x : Option (α × β)} {f : α → β → Option γ} {y : γ} (h : obind2 x f = some y) : ∃ a b, x = some (a, b) ∧ f a b = some y := by
  cases x with
  | none => cases h
  | some q => exact ⟨q.1, q.2, rfl, h⟩
theorem osome1 {α : Type} {x y : α} (h : some x = some y) : x = y := Option.some.inj h
theorem osome2 {α β : Type} {x y : α} {u v : β} (h : some (x, u) = some (y, v)) : x = y ∧ u = v := ⟨congrArg Prod.fst (Option.some.inj h), congrArg Prod.snd (Option.some.inj h)⟩
def inb (i : Int32) (n : Nat) : Bool := decide (0 ≤ i) && Nat.blt i.toNatClampNeg n
theorem inb_k {i : Int32} {n : Nat} (h : inb i n = true) : i = nI i.toNatClampNeg ∧ i.toNatClampNeg < n := by
  have h1 := (Bool.and_eq_true _ _).mp h
  have h2 : 0 ≤ i := of_decide_eq_true h1.1
  have h3 : ¬ i < 0 := Int32.not_lt.mpr h2
  obtain ⟨j, hj, e⟩ := nI_of h3
  have h4 : i.toNatClampNeg = j := by rw [e]; exact nI_clamp hj
  exact ⟨by rw [h4]; exact e, Nat.le_of_ble_eq_true h1.2⟩
theorem nar01 {v : Int32} (h : v = 0 ∨ v = 1) : narrow .boolean (.int v) = .int v := by rcases h with rfl | rfl <;> rfl
theorem tsw_ne {x : Int32} {k : Int32} {a : Int} (hk : k.toInt = a) (h : ¬ x = k) : ¬ x.toInt = a := fun q => h (Int32.toInt_inj.mp (by rw [hk]; exact q))
theorem tsw_0_2 {x : Int32} (h0 : ¬ x = 0) (h1 : ¬ x = 1) (h2 : ¬ x = 2) : x.toInt < 0 ∨ 2 < x.toInt := by
  have a0 := tsw_ne (a := 0) (by decide) h0
  have a1 := tsw_ne (a := 1) (by decide) h1
  have a2 := tsw_ne (a := 2) (by decide) h2
  omega
theorem tsw_0_3 {x : Int32} (h0 : ¬ x = 0) (h1 : ¬ x = 1) (h2 : ¬ x = 2) (h3 : ¬ x = 3) : x.toInt < 0 ∨ 3 < x.toInt := by
  have a0 := tsw_ne (a := 0) (by decide) h0
  have a1 := tsw_ne (a := 1) (by decide) h1
  have a2 := tsw_ne (a := 2) (by decide) h2
  have a3 := tsw_ne (a := 3) (by decide) h3
  omega
abbrev mCs (l : Launch) (y : MethodName) (ws : List Cond) (fr lo : Nat) (D : va_G) (cI cJ cZ : ClassId) (ad : Nat → Nat) (S : MS) (As : List Value) (post : MS → Prop) : Prop := ∀ sz : Nat, Met l y ws { frames := fr, cells := 0, slots := 0, locals := lo } (va_Pc As (mB D cI cJ cZ ad S sz)) (va_Qv post (mAt D cI cJ cZ ad (va_A (MW cI cJ cZ ad S) sz)) (va_A (MW cI cJ cZ ad S) sz)) 0 0 (va_A (MW cI cJ cZ ad S) sz)
section DEC
variable {p : Program} {l : Launch} {e : Env} {R : Room} {s : State} {m : MethodId} {args : Array Value} {below : List Frame} {meth : Method} {c : Code} {H : Heap} {locs : List Loc} {cells slots : Nat} {Q : State → Prop}
variable {cc : ByteArray} {pc : Nat} {ls : Array Slot} {rest : List Value} {D : va_G} {A : Nat → Prop} {H0 : Heap} {Ts : List Cond} {cI cJ cZ : ClassId} {ad : Nat → Nat} {S : MS}
/-- a static call by the reference that is handed its arrays -/
theorem m_calls {y : MethodName} {bytes : ByteArray} {maxL nL n index fr lo : Nat} {ret : Option FieldType} {ws : List Cond} {As : List Value} {post : MS → Prop} (E : mE p c cc s m args Ts D cI cJ cZ) (G : mG D cI cJ cZ ad A H0 H locs S) (hA : ∀ q, H0.size ≤ q → A q) (hR : sR s) (hml : c.maxLocals = nL) (hM : mCs l y ws fr lo D cI cJ cZ ad S As post) (cw : CallB R s args RX12 index y bytes maxL ret ws { frames := fr, cells := 0, slots := 0, locals := lo } 0 0 n ∧ (Cond.static y).before args s = true) (hn : As.length = n) (hsz : ls.size = nL) {st : List Value} (hst : st = As.reverse ++ rest) (hW : 2 * (F0 m pc ls st).monitorRoom + (rest.map fun v => v.category).sum ≤ 8) (hdg : decode cc pc = .ok (.invokestatic index, 3)) (hf : cells ≤ R.cells ∧ slots ≤ R.slots) (kk : ∀ (S1 : MS) (H1 : Heap) (locs1 : List Loc), post S1 → mG D cI cJ cZ ad A H0 H1 locs1 S1 → W p l e R s m args below meth c H1 locs1 cells slots Q (F0 m (pc + 3) ls rest)) : W p l e R s m args below meth c H locs cells slots Q (F0 m pc ls st) := by
  obtain ⟨hx, hb, hts, hown, hK, hin⟩ := E
  obtain ⟨hP, hD, hS⟩ := G
  have hFc := va_free (wc := MW cI cJ cZ ad S) hD hS hA [0, 1, 2, 3, 4, 5, 6, 7, 8, 9, 10, 11, 12, 13, 14, 15, 16] rfl
  refine va_callv (va_runS (As := As) (rest := rest) ⟨hx, hb, hml, hown, hts⟩ (hM H.size) cw ⟨fun a U g mk q => by obtain ⟨q0, q1, qP, qK, qD, qR⟩ := q; exact ⟨q0, q1, qP, va_K.moved (u := U) (U := U.calling g mk a) (Vm.Alike.refl U.vm) qK, qD, qR.blind⟩, fun U hU hW => ⟨rfl, by rw [hU], by rw [hU]; exact hP, va_K.moved hW.alike hK, hD.weaken (fun _ _ _ _ => trivial), hR.warm hW⟩⟩ rfl hn hsz hst hW hdg hf) hS (fun q _ h => hFc q h) hFc (fun u t H1 locs1 ht hvm hw hB hz1 hk1 hS => ?_)
  obtain ⟨hP1, hK1, hD1⟩ := hB
  rw [ht] at hP1
  obtain ⟨hP2, hD2⟩ := va_join (wr := []) (w1 := MW cI cJ cZ ad u) hP hD [0, 1, 2, 3, 4, 5, 6, 7, 8, 9, 10, 11, 12, 13, 14, 15, 16] [] rfl rfl (by decide) (by decide) hk1 hFc hP1 hD1
  exact kk u H1 locs1 hw ⟨hP2, hD2, hS⟩
theorem m_zast (E : mE p c cc s m args Ts D cI cJ cZ) (G : mG D cI cJ cZ ad A H0 H locs S) (j q0 : Nat) {n k : Nat} {i v : Int32} (ha : (MW cI cJ cZ ad S)[q0]? = some (ad j, .inl (cZ, n, .inl (S.2.1 j)))) (hs : ∀ f, (MW cI cJ cZ ad S).set q0 (ad j, .inl (cZ, n, .inl f)) = MW cI cJ cZ ad (mf S j f)) (hi : i = nI k) (hk : k < n) (hn : n < 2 ^ 31) (hv : vp_nar .boolean v = v) (hdg : decode cc pc = .ok (.bastore, 1)) (kk : ∀ (H1 : Heap) (locs1 : List Loc), mG D cI cJ cZ ad A H0 H1 locs1 (mf S j (upd (S.2.1 j) k v)) → W p l e R s m args below meth c H1 locs1 cells slots Q (F0 m (pc + 1) ls rest)) : W p l e R s m args below meth c H locs cells slots Q (F0 m pc ls (.int v :: .int i :: .ref (ad j) :: rest)) := by
  subst hi
  refine va_zast E.1 E.2.1 E.2.2.2.2.1 G.1 G.2.1 G.2.2 q0 2 ha rfl (vp_in_nI hk hn) hdg (fun H1 locs1 h1 h2 h3 => kk H1 locs1 ?_)
  rw [nI_clamp (Nat.lt_trans hk hn), hv, hs] at h1 h2
  exact ⟨h1, h2, h3⟩
theorem lv_tof {x y : UInt32} (h : x = y) (k : W p l e R s m args below meth c H locs cells slots Q (F0 m pc ls (.float y :: rest))) : W p l e R s m args below meth c H locs cells slots Q (F0 m pc ls (.float x :: rest)) := by
  subst h
  exact k
end DEC
end
section
/-! 11a1.jdk.lean.txt -/
theorem dJ13_compare_74951_0 : decode cJ13_compare_74951 0 = .ok (.lload_n 0, 1) := ybd_30 (by decide +kernel)
theorem dJ13_compare_74951_1 : decode cJ13_compare_74951 1 = .ok (.lload_n 2, 1) := ybd_32 (by decide +kernel)
theorem dJ13_compare_74951_2 : decode cJ13_compare_74951 2 = .ok (.lcmp, 1) := ybd_148 (by decide +kernel)
theorem dJ13_compare_74951_3 : decode cJ13_compare_74951 3 = .ok (.ifCond .ge 7, 3) := ybd_156 0 7 (by decide +kernel) (by decide +kernel)
theorem dJ13_compare_74951_6 : decode cJ13_compare_74951 6 = .ok (.iconst (-1), 1) := ybd_2 (by decide +kernel)
theorem dJ13_compare_74951_7 : decode cJ13_compare_74951 7 = .ok (.goto 14, 3) := ybd_167 0 14 (by decide +kernel) (by decide +kernel)
theorem dJ13_compare_74951_10 : decode cJ13_compare_74951 10 = .ok (.lload_n 0, 1) := ybd_30 (by decide +kernel)
theorem dJ13_compare_74951_11 : decode cJ13_compare_74951 11 = .ok (.lload_n 2, 1) := ybd_32 (by decide +kernel)
theorem dJ13_compare_74951_12 : decode cJ13_compare_74951 12 = .ok (.lcmp, 1) := ybd_148 (by decide +kernel)
theorem dJ13_compare_74951_13 : decode cJ13_compare_74951 13 = .ok (.ifCond .ne 7, 3) := ybd_154 0 7 (by decide +kernel) (by decide +kernel)
theorem dJ13_compare_74951_16 : decode cJ13_compare_74951 16 = .ok (.iconst 0, 1) := ybd_3 (by decide +kernel)
theorem dJ13_compare_74951_17 : decode cJ13_compare_74951 17 = .ok (.goto 4, 3) := ybd_167 0 4 (by decide +kernel) (by decide +kernel)
theorem dJ13_compare_74951_20 : decode cJ13_compare_74951 20 = .ok (.iconst 1, 1) := ybd_4 (by decide +kernel)
theorem dJ13_compare_74951_21 : decode cJ13_compare_74951 21 = .ok (.ireturn, 1) := ybd_172 (by decide +kernel)
theorem dJ9_floorDiv_f86c9_0 : decode cJ9_floorDiv_f86c9 0 = .ok (.lload_n 0, 1) := ybd_30 (by decide +kernel)
theorem dJ9_floorDiv_f86c9_1 : decode cJ9_floorDiv_f86c9 1 = .ok (.lload_n 2, 1) := ybd_32 (by decide +kernel)
theorem dJ9_floorDiv_f86c9_2 : decode cJ9_floorDiv_f86c9 2 = .ok (.ldiv, 1) := ybd_109 (by decide +kernel)
theorem dJ9_floorDiv_f86c9_3 : decode cJ9_floorDiv_f86c9 3 = .ok (.lstore 4, 2) := ybd_55 4 (by decide +kernel) rfl
theorem dJ9_floorDiv_f86c9_5 : decode cJ9_floorDiv_f86c9 5 = .ok (.lload_n 0, 1) := ybd_30 (by decide +kernel)
theorem dJ9_floorDiv_f86c9_6 : decode cJ9_floorDiv_f86c9 6 = .ok (.lload_n 2, 1) := ybd_32 (by decide +kernel)
theorem dJ9_floorDiv_f86c9_7 : decode cJ9_floorDiv_f86c9 7 = .ok (.lxor, 1) := ybd_131 (by decide +kernel)
theorem dJ9_floorDiv_f86c9_8 : decode cJ9_floorDiv_f86c9 8 = .ok (.lconst 0, 1) := ybd_9 (by decide +kernel)
theorem dJ9_floorDiv_f86c9_9 : decode cJ9_floorDiv_f86c9 9 = .ok (.lcmp, 1) := ybd_148 (by decide +kernel)
theorem dJ9_floorDiv_f86c9_10 : decode cJ9_floorDiv_f86c9 10 = .ok (.ifCond .ge 17, 3) := ybd_156 0 17 (by decide +kernel) (by decide +kernel)
theorem dJ9_floorDiv_f86c9_13 : decode cJ9_floorDiv_f86c9 13 = .ok (.lload 4, 2) := ybd_22 4 (by decide +kernel) rfl
theorem dJ9_floorDiv_f86c9_15 : decode cJ9_floorDiv_f86c9 15 = .ok (.lload_n 2, 1) := ybd_32 (by decide +kernel)
theorem dJ9_floorDiv_f86c9_16 : decode cJ9_floorDiv_f86c9 16 = .ok (.lmul, 1) := ybd_105 (by decide +kernel)
theorem dJ9_floorDiv_f86c9_17 : decode cJ9_floorDiv_f86c9 17 = .ok (.lload_n 0, 1) := ybd_30 (by decide +kernel)
theorem dJ9_floorDiv_f86c9_18 : decode cJ9_floorDiv_f86c9 18 = .ok (.lcmp, 1) := ybd_148 (by decide +kernel)
theorem dJ9_floorDiv_f86c9_19 : decode cJ9_floorDiv_f86c9 19 = .ok (.ifCond .eq 8, 3) := ybd_153 0 8 (by decide +kernel) (by decide +kernel)
theorem dJ9_floorDiv_f86c9_22 : decode cJ9_floorDiv_f86c9 22 = .ok (.lload 4, 2) := ybd_22 4 (by decide +kernel) rfl
theorem dJ9_floorDiv_f86c9_24 : decode cJ9_floorDiv_f86c9 24 = .ok (.lconst 1, 1) := ybd_10 (by decide +kernel)
theorem dJ9_floorDiv_f86c9_25 : decode cJ9_floorDiv_f86c9 25 = .ok (.lsub, 1) := ybd_101 (by decide +kernel)
theorem dJ9_floorDiv_f86c9_26 : decode cJ9_floorDiv_f86c9 26 = .ok (.lreturn, 1) := ybd_173 (by decide +kernel)
theorem dJ9_floorDiv_f86c9_27 : decode cJ9_floorDiv_f86c9 27 = .ok (.lload 4, 2) := ybd_22 4 (by decide +kernel) rfl
theorem dJ9_floorDiv_f86c9_29 : decode cJ9_floorDiv_f86c9 29 = .ok (.lreturn, 1) := ybd_173 (by decide +kernel)
theorem dJ9_floorMod_f86c9_0 : decode cJ9_floorMod_f86c9 0 = .ok (.lload_n 0, 1) := ybd_30 (by decide +kernel)
theorem dJ9_floorMod_f86c9_1 : decode cJ9_floorMod_f86c9 1 = .ok (.lload_n 2, 1) := ybd_32 (by decide +kernel)
theorem dJ9_floorMod_f86c9_2 : decode cJ9_floorMod_f86c9 2 = .ok (.lrem, 1) := ybd_113 (by decide +kernel)
theorem dJ9_floorMod_f86c9_3 : decode cJ9_floorMod_f86c9 3 = .ok (.lstore 4, 2) := ybd_55 4 (by decide +kernel) rfl
theorem dJ9_floorMod_f86c9_5 : decode cJ9_floorMod_f86c9 5 = .ok (.lload_n 0, 1) := ybd_30 (by decide +kernel)
theorem dJ9_floorMod_f86c9_6 : decode cJ9_floorMod_f86c9 6 = .ok (.lload_n 2, 1) := ybd_32 (by decide +kernel)
theorem dJ9_floorMod_f86c9_7 : decode cJ9_floorMod_f86c9 7 = .ok (.lxor, 1) := ybd_131 (by decide +kernel)
theorem dJ9_floorMod_f86c9_8 : decode cJ9_floorMod_f86c9 8 = .ok (.lconst 0, 1) := ybd_9 (by decide +kernel)
theorem dJ9_floorMod_f86c9_9 : decode cJ9_floorMod_f86c9 9 = .ok (.lcmp, 1) := ybd_148 (by decide +kernel)
theorem dJ9_floorMod_f86c9_10 : decode cJ9_floorMod_f86c9 10 = .ok (.ifCond .ge 15, 3) := ybd_156 0 15 (by decide +kernel) (by decide +kernel)
theorem dJ9_floorMod_f86c9_13 : decode cJ9_floorMod_f86c9 13 = .ok (.lload 4, 2) := ybd_22 4 (by decide +kernel) rfl
theorem dJ9_floorMod_f86c9_15 : decode cJ9_floorMod_f86c9 15 = .ok (.lconst 0, 1) := ybd_9 (by decide +kernel)
theorem dJ9_floorMod_f86c9_16 : decode cJ9_floorMod_f86c9 16 = .ok (.lcmp, 1) := ybd_148 (by decide +kernel)
theorem dJ9_floorMod_f86c9_17 : decode cJ9_floorMod_f86c9 17 = .ok (.ifCond .eq 8, 3) := ybd_153 0 8 (by decide +kernel) (by decide +kernel)
theorem dJ9_floorMod_f86c9_20 : decode cJ9_floorMod_f86c9 20 = .ok (.lload 4, 2) := ybd_22 4 (by decide +kernel) rfl
theorem dJ9_floorMod_f86c9_22 : decode cJ9_floorMod_f86c9 22 = .ok (.lload_n 2, 1) := ybd_32 (by decide +kernel)
theorem dJ9_floorMod_f86c9_23 : decode cJ9_floorMod_f86c9 23 = .ok (.ladd, 1) := ybd_97 (by decide +kernel)
theorem dJ9_floorMod_f86c9_24 : decode cJ9_floorMod_f86c9 24 = .ok (.lreturn, 1) := ybd_173 (by decide +kernel)
theorem dJ9_floorMod_f86c9_25 : decode cJ9_floorMod_f86c9 25 = .ok (.lload 4, 2) := ybd_22 4 (by decide +kernel) rfl
theorem dJ9_floorMod_f86c9_27 : decode cJ9_floorMod_f86c9 27 = .ok (.lreturn, 1) := ybd_173 (by decide +kernel)
theorem dJ0_length_8abf5_0 : decode cJ0_length_8abf5 0 = .ok (.aload_n 0, 1) := ybd_42 (by decide +kernel)
theorem dJ0_length_8abf5_1 : decode cJ0_length_8abf5 1 = .ok (.getfield 9, 3) := ybd_180 0 9 (by decide +kernel) rfl
theorem dJ0_length_8abf5_4 : decode cJ0_length_8abf5 4 = .ok (.arraylength, 1) := ybd_190 (by decide +kernel)
theorem dJ0_length_8abf5_5 : decode cJ0_length_8abf5 5 = .ok (.aload_n 0, 1) := ybd_42 (by decide +kernel)
theorem dJ0_length_8abf5_6 : decode cJ0_length_8abf5 6 = .ok (.invokevirtual 335, 3) := ybd_182 1 79 (by decide +kernel) rfl
theorem dJ0_length_8abf5_9 : decode cJ0_length_8abf5 9 = .ok (.ishr, 1) := ybd_122 (by decide +kernel)
theorem dJ0_length_8abf5_10 : decode cJ0_length_8abf5 10 = .ok (.ireturn, 1) := ybd_172 (by decide +kernel)
theorem dJ0_charAt_5068e_0 : decode cJ0_charAt_5068e 0 = .ok (.aload_n 0, 1) := ybd_42 (by decide +kernel)
theorem dJ0_charAt_5068e_1 : decode cJ0_charAt_5068e 1 = .ok (.invokevirtual 492, 3) := ybd_182 1 236 (by decide +kernel) rfl
theorem dJ0_charAt_5068e_4 : decode cJ0_charAt_5068e 4 = .ok (.ifCond .eq 12, 3) := ybd_153 0 12 (by decide +kernel) (by decide +kernel)
theorem dJ0_charAt_5068e_7 : decode cJ0_charAt_5068e 7 = .ok (.aload_n 0, 1) := ybd_42 (by decide +kernel)
theorem dJ0_charAt_5068e_8 : decode cJ0_charAt_5068e 8 = .ok (.getfield 9, 3) := ybd_180 0 9 (by decide +kernel) rfl
theorem dJ0_charAt_5068e_11 : decode cJ0_charAt_5068e 11 = .ok (.iload_n 1, 1) := ybd_27 (by decide +kernel)
theorem dJ0_charAt_5068e_12 : decode cJ0_charAt_5068e 12 = .ok (.invokestatic 495, 3) := ybd_184 1 239 (by decide +kernel) rfl
theorem dJ0_charAt_5068e_15 : decode cJ0_charAt_5068e 15 = .ok (.ireturn, 1) := ybd_172 (by decide +kernel)
theorem dJ0_coder_7d493_0 : decode cJ0_coder_7d493 0 = .ok (.getstatic 38, 3) := ybd_178 0 38 (by decide +kernel) rfl
theorem dJ0_coder_7d493_3 : decode cJ0_coder_7d493 3 = .ok (.ifCond .eq 10, 3) := ybd_153 0 10 (by decide +kernel) (by decide +kernel)
theorem dJ0_coder_7d493_6 : decode cJ0_coder_7d493 6 = .ok (.aload_n 0, 1) := ybd_42 (by decide +kernel)
theorem dJ0_coder_7d493_7 : decode cJ0_coder_7d493 7 = .ok (.getfield 15, 3) := ybd_180 0 15 (by decide +kernel) rfl
theorem dJ0_coder_7d493_10 : decode cJ0_coder_7d493 10 = .ok (.goto 4, 3) := ybd_167 0 4 (by decide +kernel) (by decide +kernel)
theorem dJ0_coder_7d493_14 : decode cJ0_coder_7d493 14 = .ok (.ireturn, 1) := ybd_172 (by decide +kernel)
theorem dJ0_isLatin1_aae02_0 : decode cJ0_isLatin1_aae02 0 = .ok (.getstatic 38, 3) := ybd_178 0 38 (by decide +kernel) rfl
theorem dJ0_isLatin1_aae02_3 : decode cJ0_isLatin1_aae02 3 = .ok (.ifCond .eq 14, 3) := ybd_153 0 14 (by decide +kernel) (by decide +kernel)
theorem dJ0_isLatin1_aae02_6 : decode cJ0_isLatin1_aae02 6 = .ok (.aload_n 0, 1) := ybd_42 (by decide +kernel)
theorem dJ0_isLatin1_aae02_7 : decode cJ0_isLatin1_aae02 7 = .ok (.getfield 15, 3) := ybd_180 0 15 (by decide +kernel) rfl
theorem dJ0_isLatin1_aae02_10 : decode cJ0_isLatin1_aae02 10 = .ok (.ifCond .ne 7, 3) := ybd_154 0 7 (by decide +kernel) (by decide +kernel)
theorem dJ0_isLatin1_aae02_13 : decode cJ0_isLatin1_aae02 13 = .ok (.iconst 1, 1) := ybd_4 (by decide +kernel)
theorem dJ0_isLatin1_aae02_14 : decode cJ0_isLatin1_aae02 14 = .ok (.goto 4, 3) := ybd_167 0 4 (by decide +kernel) (by decide +kernel)
theorem dJ0_isLatin1_aae02_18 : decode cJ0_isLatin1_aae02 18 = .ok (.ireturn, 1) := ybd_172 (by decide +kernel)
theorem dJ0_checkIndex_df160_0 : decode cJ0_checkIndex_df160 0 = .ok (.iload_n 0, 1) := ybd_26 (by decide +kernel)
theorem dJ0_checkIndex_df160_1 : decode cJ0_checkIndex_df160 1 = .ok (.iload_n 1, 1) := ybd_27 (by decide +kernel)
theorem dJ0_checkIndex_df160_2 : decode cJ0_checkIndex_df160 2 = .ok (.getstatic 1053, 3) := ybd_178 4 29 (by decide +kernel) rfl
theorem dJ0_checkIndex_df160_5 : decode cJ0_checkIndex_df160 5 = .ok (.invokestatic 1059, 3) := ybd_184 4 35 (by decide +kernel) rfl
theorem dJ0_checkIndex_df160_8 : decode cJ0_checkIndex_df160 8 = .ok (.pop, 1) := ybd_87 (by decide +kernel)
theorem dJ0_checkIndex_df160_9 : decode cJ0_checkIndex_df160 9 = .ok (.return_, 1) := ybd_177 (by decide +kernel)
theorem dJ1_charAt_3b067_0 : decode cJ1_charAt_3b067 0 = .ok (.iload_n 1, 1) := ybd_27 (by decide +kernel)
theorem dJ1_charAt_3b067_1 : decode cJ1_charAt_3b067 1 = .ok (.aload_n 0, 1) := ybd_42 (by decide +kernel)
theorem dJ1_charAt_3b067_2 : decode cJ1_charAt_3b067 2 = .ok (.arraylength, 1) := ybd_190 (by decide +kernel)
theorem dJ1_charAt_3b067_3 : decode cJ1_charAt_3b067 3 = .ok (.invokestatic 9, 3) := ybd_184 0 9 (by decide +kernel) rfl
theorem dJ1_charAt_3b067_6 : decode cJ1_charAt_3b067 6 = .ok (.aload_n 0, 1) := ybd_42 (by decide +kernel)
theorem dJ1_charAt_3b067_7 : decode cJ1_charAt_3b067 7 = .ok (.iload_n 1, 1) := ybd_27 (by decide +kernel)
theorem dJ1_charAt_3b067_8 : decode cJ1_charAt_3b067 8 = .ok (.baload, 1) := ybd_51 (by decide +kernel)
theorem dJ1_charAt_3b067_9 : decode cJ1_charAt_3b067 9 = .ok (.sipush 255, 3) := ybd_17 0 255 (by decide +kernel) (by decide +kernel)
theorem dJ1_charAt_3b067_12 : decode cJ1_charAt_3b067 12 = .ok (.iand, 1) := ybd_126 (by decide +kernel)
theorem dJ1_charAt_3b067_13 : decode cJ1_charAt_3b067 13 = .ok (.i2c, 1) := ybd_146 (by decide +kernel)
theorem dJ1_charAt_3b067_14 : decode cJ1_charAt_3b067 14 = .ok (.ireturn, 1) := ybd_172 (by decide +kernel)
theorem dJ7_fill_53178_0 : decode cJ7_fill_53178 0 = .ok (.iconst 0, 1) := ybd_3 (by decide +kernel)
theorem dJ7_fill_53178_1 : decode cJ7_fill_53178 1 = .ok (.istore_n 2, 1) := ybd_61 (by decide +kernel)
theorem dJ7_fill_53178_2 : decode cJ7_fill_53178 2 = .ok (.aload_n 0, 1) := ybd_42 (by decide +kernel)
theorem dJ7_fill_53178_3 : decode cJ7_fill_53178 3 = .ok (.arraylength, 1) := ybd_190 (by decide +kernel)
theorem dJ7_fill_53178_4 : decode cJ7_fill_53178 4 = .ok (.istore_n 3, 1) := ybd_62 (by decide +kernel)
theorem dJ7_fill_53178_5 : decode cJ7_fill_53178 5 = .ok (.iload_n 2, 1) := ybd_28 (by decide +kernel)
theorem dJ7_fill_53178_6 : decode cJ7_fill_53178 6 = .ok (.iload_n 3, 1) := ybd_29 (by decide +kernel)
theorem dJ7_fill_53178_7 : decode cJ7_fill_53178 7 = .ok (.if_icmp .ge 13, 3) := ybd_162 0 13 (by decide +kernel) (by decide +kernel)
theorem dJ7_fill_53178_10 : decode cJ7_fill_53178 10 = .ok (.aload_n 0, 1) := ybd_42 (by decide +kernel)
theorem dJ7_fill_53178_11 : decode cJ7_fill_53178 11 = .ok (.iload_n 2, 1) := ybd_28 (by decide +kernel)
theorem dJ7_fill_53178_12 : decode cJ7_fill_53178 12 = .ok (.iload_n 1, 1) := ybd_27 (by decide +kernel)
theorem dJ7_fill_53178_13 : decode cJ7_fill_53178 13 = .ok (.iastore, 1) := ybd_79 (by decide +kernel)
theorem dJ7_fill_53178_14 : decode cJ7_fill_53178 14 = .ok (.iinc 2 1, 3) := ybd_132 2 1 (by decide +kernel) (by decide +kernel)
theorem dJ7_fill_53178_17 : decode cJ7_fill_53178 17 = .ok (.goto (-12), 3) := ybd_167 255 244 (by decide +kernel) (by decide +kernel)
theorem dJ7_fill_53178_20 : decode cJ7_fill_53178 20 = .ok (.return_, 1) := ybd_177 (by decide +kernel)
theorem dJ3_checkIndex_8e157_0 : decode cJ3_checkIndex_8e157 0 = .ok (.iload_n 0, 1) := ybd_26 (by decide +kernel)
theorem dJ3_checkIndex_8e157_1 : decode cJ3_checkIndex_8e157 1 = .ok (.ifCond .lt 8, 3) := ybd_155 0 8 (by decide +kernel) (by decide +kernel)
theorem dJ3_checkIndex_8e157_4 : decode cJ3_checkIndex_8e157 4 = .ok (.iload_n 0, 1) := ybd_26 (by decide +kernel)
theorem dJ3_checkIndex_8e157_5 : decode cJ3_checkIndex_8e157 5 = .ok (.iload_n 1, 1) := ybd_27 (by decide +kernel)
theorem dJ3_checkIndex_8e157_6 : decode cJ3_checkIndex_8e157 6 = .ok (.if_icmp .lt 10, 3) := ybd_161 0 10 (by decide +kernel) (by decide +kernel)
theorem dJ3_checkIndex_8e157_16 : decode cJ3_checkIndex_8e157 16 = .ok (.iload_n 0, 1) := ybd_26 (by decide +kernel)
theorem dJ3_checkIndex_8e157_17 : decode cJ3_checkIndex_8e157 17 = .ok (.ireturn, 1) := ybd_172 (by decide +kernel)
end
section
/-! 11b.str.lean.txt -/
/-- a void call that touches nothing -/
def s_Sv : Array Value → State → Outcome → State → Prop := fun _ st o t => o = .returned none ∧ t.heap = st.heap
/-- q is a String of Latin-1 letters: tx.1 of them, tx.2 j the j-th -/
def sO (tx : Nat × (Nat → Int32)) (q : Nat) (A : Nat → Prop) (U : State) (H : Heap) : Prop := ∃ v : Nat, va_O RJ0 q A U H ∧ va_OF RJ0 "coder" "B" (.int 0) q A U H ∧ va_OF RJ0 "value" "[B" (.ref v) q A U H ∧ va_T .byte v tx.1 (fun j => .int (tx.2 j)) A U H
theorem sO.moved {tx : Nat × (Nat → Int32)} {q : Nat} {A : Nat → Prop} {u U : State} {H : Heap} (hvm : u.vm.Alike U.vm) (h : sO tx q A u H) : sO tx q A U H := h.elim fun v h => ⟨v, va_O.moved hvm h.1, va_OF.moved hvm h.2.1, va_OF.moved hvm h.2.2.1, va_T.moved hvm h.2.2.2⟩
theorem sO.kept {tx : Nat × (Nat → Int32)} {q : Nat} {A : Nat → Prop} {U : State} {H H1 : Heap} (h : sO tx q A U H) (hq : ∀ a : Nat, a < H.size → ¬ A a → H1[a]? = H[a]?) : sO tx q A U H1 := h.elim fun v h => ⟨v, h.1.kept hq, h.2.1.kept hq, h.2.2.1.kept hq, h.2.2.2.kept hq⟩
theorem sO.narrow {tx : Nat × (Nat → Int32)} {q : Nat} {A B : Nat → Prop} {U : State} {H : Heap} (h : sO tx q A U H) (hAB : ∀ q, B q → A q) : sO tx q B U H := h.elim fun v h => ⟨v, h.1.narrow hAB, h.2.1.narrow hAB, h.2.2.1.narrow hAB, h.2.2.2.narrow hAB⟩
/-- the two statics that String's own code reads -/
def sZ (A : Nat → Prop) (U : State) (H : Heap) : Prop := va_Z RJ0 "COMPACT_STRINGS" "Z" (.int 1) A U H ∧ va_Zq RJ3 "SIOOBE_FORMATTER" "Ljava/util/function/BiFunction;" A U H
theorem sZ.moved {A : Nat → Prop} {u U : State} {H : Heap} (hvm : u.vm.Alike U.vm) (h : sZ A u H) : sZ A U H := ⟨va_Z.moved hvm h.1, va_Zq.moved hvm h.2⟩
theorem sZ.kept {A : Nat → Prop} {U : State} {H H1 : Heap} (h : sZ A U H) (hq : ∀ a : Nat, a < H.size → ¬ A a → H1[a]? = H[a]?) : sZ A U H1 := ⟨h.1.kept hq, h.2.kept hq⟩
theorem sZ.narrow {A B : Nat → Prop} {U : State} {H : Heap} (h : sZ A U H) (hAB : ∀ q, B q → A q) : sZ B U H := ⟨h.1.narrow hAB, h.2.narrow hAB⟩
def sP (tx : Nat × (Nat → Int32)) (q : Nat) (U : State) : Prop := sO tx q (fun _ => False) U U.heap ∧ sZ (fun _ => False) U U.heap
theorem sP.blind {tx : Nat × (Nat → Int32)} {q : Nat} {U : State} {g : JFrame} {mk : MethodId} {a : Array Value} (h : sP tx q U) : sP tx q (U.calling g mk a) := ⟨sO.moved (u := U) (U := U.calling g mk a) (Vm.Alike.refl U.vm) h.1, sZ.moved (u := U) (U := U.calling g mk a) (Vm.Alike.refl U.vm) h.2⟩
section JDKS
variable {p : Program} {l : Launch} {e : Env} {R : Room} {s : State} {m : MethodId} {args : Array Value} {below : List Frame} {meth : Method} {c : Code} {H : Heap} {locs : List Loc} {cells slots : Nat} {Q : State → Prop}
variable {cc : ByteArray} {pc : Nat} {ls : Array Slot} {rest : List Value}
theorem s_callSv {a : Array Value} {st0 : List Value} (hr : CallRun p l e R s m args below meth c H locs cells slots 0 0 (F0 m pc ls st0) rest (s_Sv a) (fun _ => False)) (kk : W p l e R s m args below meth c H locs cells slots Q (F0 m (pc + 3) ls rest)) : W p l e R s m args below meth c H locs cells slots Q (F0 m pc ls st0) := by
  intro T hT X
  obtain ⟨v, st₀, t, T', L, h0, X', hL, e1, ⟨hv, hh⟩, st⟩ := hr T hT X
  cases hv
  obtain ⟨t2, a1, b1⟩ := kk T' (by rw [e1, hh, h0]) (Stand.forget X' (fun q h => (hL q h).elim))
  exact ⟨t2, st t2 a1, b1⟩
theorem s_callV {y : MethodName} {bytes : ByteArray} {maxL nL n index fr lo : Nat} {ret : Option FieldType} {Ts ws : List Cond} {As : List Value} {post : Int32 → Prop} {own C : String} {q : Nat} {P : State → Prop} (F : CallFix p m c cc nL s args Ts own) (hM : Met l y ws { frames := fr, cells := 0, slots := 0, locals := lo } (va_Pc (.ref q :: As) P) (vp_Si post) 0 0 (fun _ => False)) (cw : CallW R s args own C index y bytes maxL ret ws { frames := fr, cells := 0, slots := 0, locals := lo } 0 0 n) (hr : ∃ cell : Cell, H[q]? = some cell ∧ cell.vm.isStatics = false ∧ s.vm.findClass C = some cell.cls) (hB : ∀ (a : Array Value) (U : State) (g : JFrame) (mk : MethodId), P U → P (U.calling g mk a)) (hP : ∀ U : State, U.heap = H → s.WarmedH U.vm → P U) (hn : As.length = n) (hsz : ls.size = nL) {st : List Value} (hst : st = As.reverse ++ .ref q :: rest) (hW : 2 * (F0 m pc ls st).monitorRoom + (rest.map fun v => v.category).sum ≤ 8) (hdg : decode cc pc = .ok (.invokevirtual index, 3)) (hf : cells ≤ R.cells ∧ slots ≤ R.slots) (kk : ∀ r : Int32, post r → W p l e R s m args below meth c H locs cells slots Q (F0 m (pc + 3) ls (.int r :: rest))) : W p l e R s m args below meth c H locs cells slots Q (F0 m pc ls st) :=
  vp_callSi (W.runV F hM cw ⟨fun a U g mk q => ⟨q.1, hB a U g mk q.2⟩, hr, fun U hU hW => ⟨rfl, hP U hU hW⟩⟩ rfl hn hsz hst hW hdg hf) kk
theorem s_stat {y : MethodName} {bytes : ByteArray} {maxL nL n index fr lo : Nat} {ret : Option FieldType} {Ts ws : List Cond} {As : List Value} {post : Int32 → Prop} {own : String} {P : State → Prop} (F : CallFix p m c cc nL s args Ts own) (hM : Met l y ws { frames := fr, cells := 0, slots := 0, locals := lo } (va_Pc As P) (vp_Si post) 0 0 (fun _ => False)) (cw : CallB R s args own index y bytes maxL ret ws { frames := fr, cells := 0, slots := 0, locals := lo } 0 0 n ∧ (Cond.static y).before args s = true) (hB : ∀ (a : Array Value) (U : State) (g : JFrame) (mk : MethodId), P U → P (U.calling g mk a)) (hP : ∀ U : State, U.heap = H → s.WarmedH U.vm → P U) (hn : As.length = n) (hsz : ls.size = nL) {st : List Value} (hst : st = As.reverse ++ rest) (hW : 2 * (F0 m pc ls st).monitorRoom + (rest.map fun v => v.category).sum ≤ 8) (hdg : decode cc pc = .ok (.invokestatic index, 3)) (hf : cells ≤ R.cells ∧ slots ≤ R.slots) (kk : ∀ r : Int32, post r → W p l e R s m args below meth c H locs cells slots Q (F0 m (pc + 3) ls (.int r :: rest))) : W p l e R s m args below meth c H locs cells slots Q (F0 m pc ls st) :=
  vp_callSi (W.runS F hM cw ⟨fun a U g mk q => ⟨q.1, hB a U g mk q.2⟩, fun U hU hW => ⟨rfl, hP U hU hW⟩⟩ rfl hn hsz hst hW hdg hf) kk
theorem s_statv {y : MethodName} {bytes : ByteArray} {maxL nL n index fr lo : Nat} {ret : Option FieldType} {Ts ws : List Cond} {As : List Value} {own : String} {P : State → Prop} (F : CallFix p m c cc nL s args Ts own) (hM : Met l y ws { frames := fr, cells := 0, slots := 0, locals := lo } (va_Pc As P) s_Sv 0 0 (fun _ => False)) (cw : CallB R s args own index y bytes maxL ret ws { frames := fr, cells := 0, slots := 0, locals := lo } 0 0 n ∧ (Cond.static y).before args s = true) (hB : ∀ (a : Array Value) (U : State) (g : JFrame) (mk : MethodId), P U → P (U.calling g mk a)) (hP : ∀ U : State, U.heap = H → s.WarmedH U.vm → P U) (hn : As.length = n) (hsz : ls.size = nL) {st : List Value} (hst : st = As.reverse ++ rest) (hW : 2 * (F0 m pc ls st).monitorRoom + (rest.map fun v => v.category).sum ≤ 8) (hdg : decode cc pc = .ok (.invokestatic index, 3)) (hf : cells ≤ R.cells ∧ slots ≤ R.slots) (kk : W p l e R s m args below meth c H locs cells slots Q (F0 m (pc + 3) ls rest)) : W p l e R s m args below meth c H locs cells slots Q (F0 m pc ls st) :=
  s_callSv (W.runS F hM cw ⟨fun a U g mk q => ⟨q.1, hB a U g mk q.2⟩, fun U hU hW => ⟨rfl, hP U hU hW⟩⟩ rfl hn hsz hst hW hdg hf) kk
end JDKS
/-- the letter that charAt gives -/
def s_ch (x : Int32) : Int32 := ((x &&& 255).toUInt32 % 65536).toInt32
set_option maxHeartbeats 4000000 in
set_option maxRecDepth 100000 in
theorem j_coder (l : Launch) {tx : Nat × (Nat → Int32)} {q : Nat} : Met l yJ0_coder_7d493 (Cond.code yJ0_coder_7d493 cJ0_coder_7d493 1 (some .byte) :: wsM) { frames := 1, cells := 0, slots := 0, locals := 0 } (va_Pc [.ref q] (sP tx q)) (vp_Si (fun r => r = 0)) 0 0 (fun _ => False) := by
  refine Met.ofW (cc := cJ0_coder_7d493) (maxL := 1) (ret := (some .byte)) (by decide) rfl ?_
  intro p e s m args below meth c s₁ B hml hv
  obtain ⟨rfl, hv⟩ := hv
  have hx := B.exec
  have hb := B.bytes
  have hr := B.returns
  have hts := atoms_spec (ws := (Cond.code yJ0_coder_7d493 cJ0_coder_7d493 1 (some .byte) :: wsM)) B.pre
  have hown : s.vm.findClass RJ0 = some m.cls := findClass_of_methodNamed B.named
  have hlocks := B.notSynchronized
  have hS : va_S (fun _ : Nat => False) s.heap s.heap [] := va_S.rf
  have hl := lv_entry ([.ref q]) (n := 1) (Nat.le_of_ble_eq_true rfl)
  rw [lg_entry_eq]
  generalize (lg_sl ([.ref q]) ++ List.replicate (1 - (lg_sl ([.ref q])).length) Slot.unset).toArray = ls at hl ⊢
  have hl : lv_has ls 1 [(0, .ref q)] := hl
  obtain ⟨⟨v, h1, h2, h3, h4⟩, h5, h6⟩ := hv
  refine va_gets (v := .int 1) hx hb h5 hS hown (hts _ (.tail _ qM_68)) (fun _ h => h) dJ0_coder_7d493_0 ?_
  refine lv_if_eq (tgt := 13) hx hb dJ0_coder_7d493_3 (by decide) (fun h => absurd h (by decide)) (fun _ => ?_)
  refine lv_aload_n hx hb dJ0_coder_7d493_6 rfl (lv_at hl 0 rfl) ?_
  refine vk_getf hx hb h2 hS hown (hts _ (.tail _ qM_69)) (fun _ h => h) dJ0_coder_7d493_7 ?_
  refine lv_goto (tgt := 14) hx hb dJ0_coder_7d493_10 (by decide) ?_
  exact W.zret (v := 0) hx hb hr rfl (fun t ht hW => ⟨0, rfl, rfl, ht⟩) (fun _ h => absurd h List.not_mem_nil) dJ0_coder_7d493_14
set_option maxHeartbeats 4000000 in
set_option maxRecDepth 100000 in
theorem j_isLatin1 (l : Launch) {tx : Nat × (Nat → Int32)} {q : Nat} : Met l yJ0_isLatin1_aae02 (Cond.code yJ0_isLatin1_aae02 cJ0_isLatin1_aae02 1 (some .boolean) :: wsM) { frames := 1, cells := 0, slots := 0, locals := 0 } (va_Pc [.ref q] (sP tx q)) (vp_Si (fun r => r = 1)) 0 0 (fun _ => False) := by
  refine Met.ofW (cc := cJ0_isLatin1_aae02) (maxL := 1) (ret := (some .boolean)) (by decide) rfl ?_
  intro p e s m args below meth c s₁ B hml hv
  obtain ⟨rfl, hv⟩ := hv
  have hx := B.exec
  have hb := B.bytes
  have hr := B.returns
  have hts := atoms_spec (ws := (Cond.code yJ0_isLatin1_aae02 cJ0_isLatin1_aae02 1 (some .boolean) :: wsM)) B.pre
  have hown : s.vm.findClass RJ0 = some m.cls := findClass_of_methodNamed B.named
  have hlocks := B.notSynchronized
  have hS : va_S (fun _ : Nat => False) s.heap s.heap [] := va_S.rf
  have hl := lv_entry ([.ref q]) (n := 1) (Nat.le_of_ble_eq_true rfl)
  rw [lg_entry_eq]
  generalize (lg_sl ([.ref q]) ++ List.replicate (1 - (lg_sl ([.ref q])).length) Slot.unset).toArray = ls at hl ⊢
  have hl : lv_has ls 1 [(0, .ref q)] := hl
  obtain ⟨⟨v, h1, h2, h3, h4⟩, h5, h6⟩ := hv
  refine va_gets (v := .int 1) hx hb h5 hS hown (hts _ (.tail _ qM_68)) (fun _ h => h) dJ0_isLatin1_aae02_0 ?_
  refine lv_if_eq (tgt := 17) hx hb dJ0_isLatin1_aae02_3 (by decide) (fun h => absurd h (by decide)) (fun _ => ?_)
  refine lv_aload_n hx hb dJ0_isLatin1_aae02_6 rfl (lv_at hl 0 rfl) ?_
  refine vk_getf hx hb h2 hS hown (hts _ (.tail _ qM_69)) (fun _ h => h) dJ0_isLatin1_aae02_7 ?_
  refine lv_if_ne (tgt := 17) hx hb dJ0_isLatin1_aae02_10 (by decide) (fun h => absurd rfl h) (fun _ => ?_)
  refine lv_iconst (v := 1) hx hb dJ0_isLatin1_aae02_13 (by decide) ?_
  refine lv_goto (tgt := 18) hx hb dJ0_isLatin1_aae02_14 (by decide) ?_
  exact W.zret (v := 1) hx hb hr rfl (fun t ht hW => ⟨1, rfl, rfl, ht⟩) (fun _ h => absurd h List.not_mem_nil) dJ0_isLatin1_aae02_18
set_option maxHeartbeats 4000000 in
set_option maxRecDepth 100000 in
theorem j_length (l : Launch) {tx : Nat × (Nat → Int32)} {q : Nat} : Met l yJ0_length_8abf5 (Cond.code yJ0_length_8abf5 cJ0_length_8abf5 1 (some .int) :: wsM) { frames := 2, cells := 0, slots := 0, locals := 20 } (va_Pc [.ref q] (sP tx q)) (vp_Si (fun r => r = nI tx.1 >>> (0 &&& 31))) 0 0 (fun _ => False) := by
  refine Met.ofW (cc := cJ0_length_8abf5) (maxL := 1) (ret := (some .int)) (by decide) rfl ?_
  intro p e s m args below meth c s₁ B hml hv
  obtain ⟨rfl, hv⟩ := hv
  have hx := B.exec
  have hb := B.bytes
  have hr := B.returns
  have hts := atoms_spec (ws := (Cond.code yJ0_length_8abf5 cJ0_length_8abf5 1 (some .int) :: wsM)) B.pre
  have hown : s.vm.findClass RJ0 = some m.cls := findClass_of_methodNamed B.named
  have hlocks := B.notSynchronized
  have hS : va_S (fun _ : Nat => False) s.heap s.heap [] := va_S.rf
  have hl := lv_entry ([.ref q]) (n := 1) (Nat.le_of_ble_eq_true rfl)
  rw [lg_entry_eq]
  generalize (lg_sl ([.ref q]) ++ List.replicate (1 - (lg_sl ([.ref q])).length) Slot.unset).toArray = ls at hl ⊢
  have hl : lv_has ls 1 [(0, .ref q)] := hl
  obtain ⟨⟨v, h1, h2, h3, h4⟩, h5, h6⟩ := id hv
  refine lv_aload_n hx hb dJ0_length_8abf5_0 rfl (lv_at hl 0 rfl) ?_
  refine vk_getf hx hb h3 hS hown (hts _ (.tail _ qM_63)) (fun _ h => h) dJ0_length_8abf5_1 ?_
  refine va_tlen (v := nI tx.1) hx hb h4 hS rfl dJ0_length_8abf5_4 ?_
  refine lv_aload_n hx hb dJ0_length_8abf5_5 rfl (lv_at hl 0 rfl) ?_
  refine s_callV (As := []) (rest := [.int (nI tx.1)]) ⟨hx, hb, hml, hown, hts⟩ (j_coder l (tx := tx) (q := q)) (cwV 0 hts (gmV qM_64 qM_65 qM_66 qM_61 qM_67) rfl rfl rfl (by decide +kernel) ⟨Nat.le_of_ble_eq_true rfl, Nat.le_of_ble_eq_true rfl⟩) (h1.elim fun cell h => ⟨cell, h.1, h.2.1, h.2.2.1⟩) (fun _ _ _ _ h => h.blind) (fun U hU hW => ⟨by rw [hU]; exact sO.moved hW.alike hv.1, by rw [hU]; exact sZ.moved hW.alike hv.2⟩) rfl hl.1 rfl (lv_room (Nat.le_of_ble_eq_true rfl)) dJ0_length_8abf5_6 ⟨Nat.zero_le _, Nat.zero_le _⟩ (fun r hq => ?_)
  refine lv_to hq ?_
  refine lv_ishr hx hb dJ0_length_8abf5_9 ?_
  exact W.iret (v := (nI tx.1 >>> (0 &&& 31))) hx hb hr (fun t ht hW => ⟨(nI tx.1 >>> (0 &&& 31)), rfl, rfl, ht⟩) (fun _ h => absurd h List.not_mem_nil) dJ0_length_8abf5_10
set_option maxHeartbeats 4000000 in
set_option maxRecDepth 100000 in
theorem j_ck3n (l : Launch) {i n : Nat} (hi : i < n) (hn : n < 2 ^ 31) : Met l yJ3_checkIndex_8e157 (Cond.code yJ3_checkIndex_8e157 cJ3_checkIndex_8e157 3 (some .int) :: wsM) { frames := 1, cells := 0, slots := 0, locals := 0 } (va_Pc [.int (nI i), .int (nI n), .null] (fun _ => True)) (vp_Si (fun r => r = nI i)) 0 0 (fun _ => False) := by
  refine Met.ofW (cc := cJ3_checkIndex_8e157) (maxL := 3) (ret := (some .int)) (by decide) rfl ?_
  intro p e s m args below meth c s₁ B hml hv
  obtain ⟨rfl, hv⟩ := hv
  have hx := B.exec
  have hb := B.bytes
  have hr := B.returns
  have hts := atoms_spec (ws := (Cond.code yJ3_checkIndex_8e157 cJ3_checkIndex_8e157 3 (some .int) :: wsM)) B.pre
  have hown : s.vm.findClass RJ3 = some m.cls := findClass_of_methodNamed B.named
  have hlocks := B.notSynchronized
  have hS : va_S (fun _ : Nat => False) s.heap s.heap [] := va_S.rf
  have hl := lv_entry ([.int (nI i), .int (nI n), .null]) (n := 3) (Nat.le_of_ble_eq_true rfl)
  rw [lg_entry_eq]
  generalize (lg_sl ([.int (nI i), .int (nI n), .null]) ++ List.replicate (3 - (lg_sl ([.int (nI i), .int (nI n), .null])).length) Slot.unset).toArray = ls at hl ⊢
  have hl : lv_has ls 3 [(0, .int (nI i)), (1, .int (nI n)), (2, .null)] := hl
  refine lv_iload_n hx hb dJ3_checkIndex_8e157_0 rfl (lv_at hl 0 rfl) ?_
  refine lv_if_lt (tgt := 9) hx hb dJ3_checkIndex_8e157_1 (by decide) (fun h => absurd h (nI_pos (Nat.lt_trans hi hn))) (fun _ => ?_)
  refine lv_iload_n hx hb dJ3_checkIndex_8e157_4 rfl (lv_at hl 0 rfl) ?_
  refine lv_iload_n hx hb dJ3_checkIndex_8e157_5 rfl (lv_at hl 1 rfl) ?_
  refine lv_icmp_lt (tgt := 16) hx hb dJ3_checkIndex_8e157_6 (by decide) (fun _ => ?_) (fun h => absurd (nI_lt hi hn) h)
  refine lv_iload_n hx hb dJ3_checkIndex_8e157_16 rfl (lv_at hl 0 rfl) ?_
  exact W.iret (v := (nI i)) hx hb hr (fun t ht hW => ⟨(nI i), rfl, rfl, ht⟩) (fun _ h => absurd h List.not_mem_nil) dJ3_checkIndex_8e157_17
set_option maxHeartbeats 4000000 in
set_option maxRecDepth 100000 in
theorem j_ck3r (l : Launch) {i n : Nat} {z : Nat} (hi : i < n) (hn : n < 2 ^ 31) : Met l yJ3_checkIndex_8e157 (Cond.code yJ3_checkIndex_8e157 cJ3_checkIndex_8e157 3 (some .int) :: wsM) { frames := 1, cells := 0, slots := 0, locals := 0 } (va_Pc [.int (nI i), .int (nI n), .ref z] (fun _ => True)) (vp_Si (fun r => r = nI i)) 0 0 (fun _ => False) := by
  refine Met.ofW (cc := cJ3_checkIndex_8e157) (maxL := 3) (ret := (some .int)) (by decide) rfl ?_
  intro p e s m args below meth c s₁ B hml hv
  obtain ⟨rfl, hv⟩ := hv
  have hx := B.exec
  have hb := B.bytes
  have hr := B.returns
  have hts := atoms_spec (ws := (Cond.code yJ3_checkIndex_8e157 cJ3_checkIndex_8e157 3 (some .int) :: wsM)) B.pre
  have hown : s.vm.findClass RJ3 = some m.cls := findClass_of_methodNamed B.named
  have hlocks := B.notSynchronized
  have hS : va_S (fun _ : Nat => False) s.heap s.heap [] := va_S.rf
  have hl := lv_entry ([.int (nI i), .int (nI n), .ref z]) (n := 3) (Nat.le_of_ble_eq_true rfl)
  rw [lg_entry_eq]
  generalize (lg_sl ([.int (nI i), .int (nI n), .ref z]) ++ List.replicate (3 - (lg_sl ([.int (nI i), .int (nI n), .ref z])).length) Slot.unset).toArray = ls at hl ⊢
  have hl : lv_has ls 3 [(0, .int (nI i)), (1, .int (nI n)), (2, .ref z)] := hl
  refine lv_iload_n hx hb dJ3_checkIndex_8e157_0 rfl (lv_at hl 0 rfl) ?_
  refine lv_if_lt (tgt := 9) hx hb dJ3_checkIndex_8e157_1 (by decide) (fun h => absurd h (nI_pos (Nat.lt_trans hi hn))) (fun _ => ?_)
  refine lv_iload_n hx hb dJ3_checkIndex_8e157_4 rfl (lv_at hl 0 rfl) ?_
  refine lv_iload_n hx hb dJ3_checkIndex_8e157_5 rfl (lv_at hl 1 rfl) ?_
  refine lv_icmp_lt (tgt := 16) hx hb dJ3_checkIndex_8e157_6 (by decide) (fun _ => ?_) (fun h => absurd (nI_lt hi hn) h)
  refine lv_iload_n hx hb dJ3_checkIndex_8e157_16 rfl (lv_at hl 0 rfl) ?_
  exact W.iret (v := (nI i)) hx hb hr (fun t ht hW => ⟨(nI i), rfl, rfl, ht⟩) (fun _ h => absurd h List.not_mem_nil) dJ3_checkIndex_8e157_17
set_option maxHeartbeats 4000000 in
set_option maxRecDepth 100000 in
theorem j_ck0 (l : Launch) {i n : Nat} (hi : i < n) (hn : n < 2 ^ 31) : Met l yJ0_checkIndex_df160 (Cond.code yJ0_checkIndex_df160 cJ0_checkIndex_df160 2 none :: wsM) { frames := 2, cells := 0, slots := 0, locals := 22 } (va_Pc [.int (nI i), .int (nI n)] (fun U => sZ (fun _ => False) U U.heap)) s_Sv 0 0 (fun _ => False) := by
  refine Met.ofW (cc := cJ0_checkIndex_df160) (maxL := 2) (ret := none) (by decide) rfl ?_
  intro p e s m args below meth c s₁ B hml hv
  obtain ⟨rfl, hv⟩ := hv
  have hx := B.exec
  have hb := B.bytes
  have hr := B.returns
  have hts := atoms_spec (ws := (Cond.code yJ0_checkIndex_df160 cJ0_checkIndex_df160 2 none :: wsM)) B.pre
  have hown : s.vm.findClass RJ0 = some m.cls := findClass_of_methodNamed B.named
  have hlocks := B.notSynchronized
  have hS : va_S (fun _ : Nat => False) s.heap s.heap [] := va_S.rf
  have hl := lv_entry ([.int (nI i), .int (nI n)]) (n := 2) (Nat.le_of_ble_eq_true rfl)
  rw [lg_entry_eq]
  generalize (lg_sl ([.int (nI i), .int (nI n)]) ++ List.replicate (2 - (lg_sl ([.int (nI i), .int (nI n)])).length) Slot.unset).toArray = ls at hl ⊢
  have hl : lv_has ls 2 [(0, .int (nI i)), (1, .int (nI n))] := hl
  obtain ⟨h5, h6⟩ := hv
  refine lv_iload_n hx hb dJ0_checkIndex_df160_0 rfl (lv_at hl 0 rfl) ?_
  refine lv_iload_n hx hb dJ0_checkIndex_df160_1 rfl (lv_at hl 1 rfl) ?_
  rcases h6 with h6 | ⟨z, h6⟩
  · refine va_gets (v := .null) hx hb h6 hS hown (hts _ (.tail _ qM_85)) (fun _ h => h) dJ0_checkIndex_df160_2 ?_
    refine s_stat (As := [.int (nI i), .int (nI n), .null]) (rest := []) ⟨hx, hb, hml, hown, hts⟩ (j_ck3n l hi hn) ⟨callB_of 3 hts (gmIn (L := []) (fun _ h => absurd h List.not_mem_nil) qM_89) rfl rfl rfl (hts _ (.tail _ qM_88)) (hts _ (.tail _ qM_86)) (by decide +kernel) ⟨Nat.le_of_ble_eq_true rfl, Nat.le_of_ble_eq_true rfl⟩, hts _ (.tail _ qM_87)⟩ (fun _ _ _ _ h => h) (fun _ _ _ => trivial) rfl hl.1 rfl (lv_room (Nat.le_of_ble_eq_true rfl)) dJ0_checkIndex_df160_5 ⟨Nat.zero_le _, Nat.zero_le _⟩ (fun r hq => ?_)
    refine lv_pop hx hb dJ0_checkIndex_df160_8 rfl ?_
    exact W.vret hx hb hr (fun t ht hW => ⟨rfl, ht⟩) (fun _ h => absurd h List.not_mem_nil) dJ0_checkIndex_df160_9
  · refine va_gets (v := .ref z) hx hb h6 hS hown (hts _ (.tail _ qM_85)) (fun _ h => h) dJ0_checkIndex_df160_2 ?_
    refine s_stat (As := [.int (nI i), .int (nI n), .ref z]) (rest := []) ⟨hx, hb, hml, hown, hts⟩ (j_ck3r l hi hn) ⟨callB_of 3 hts (gmIn (L := []) (fun _ h => absurd h List.not_mem_nil) qM_89) rfl rfl rfl (hts _ (.tail _ qM_88)) (hts _ (.tail _ qM_86)) (by decide +kernel) ⟨Nat.le_of_ble_eq_true rfl, Nat.le_of_ble_eq_true rfl⟩, hts _ (.tail _ qM_87)⟩ (fun _ _ _ _ h => h) (fun _ _ _ => trivial) rfl hl.1 rfl (lv_room (Nat.le_of_ble_eq_true rfl)) dJ0_checkIndex_df160_5 ⟨Nat.zero_le _, Nat.zero_le _⟩ (fun r hq => ?_)
    refine lv_pop hx hb dJ0_checkIndex_df160_8 rfl ?_
    exact W.vret hx hb hr (fun t ht hW => ⟨rfl, ht⟩) (fun _ h => absurd h List.not_mem_nil) dJ0_checkIndex_df160_9
set_option maxHeartbeats 4000000 in
set_option maxRecDepth 100000 in
theorem j_ch1 (l : Launch) {v k n : Nat} {f : Nat → Int32} (hk : k < n) (hn : n < 2 ^ 31) (hc : narrow .char (.int (s_ch (f k))) = .int (s_ch (f k))) : Met l yJ1_charAt_3b067 (Cond.code yJ1_charAt_3b067 cJ1_charAt_3b067 2 (some .char) :: wsM) { frames := 3, cells := 0, slots := 0, locals := 44 } (va_Pc [.ref v, .int (nI k)] (fun U => va_T .byte v n (fun j => .int (f j)) (fun _ => False) U U.heap ∧ sZ (fun _ => False) U U.heap)) (vp_Si (fun r => r = s_ch (f k))) 0 0 (fun _ => False) := by
  refine Met.ofW (cc := cJ1_charAt_3b067) (maxL := 2) (ret := (some .char)) (by decide) rfl ?_
  intro p e s m args below meth c s₁ B hml hv
  obtain ⟨rfl, hv⟩ := hv
  have hx := B.exec
  have hb := B.bytes
  have hr := B.returns
  have hts := atoms_spec (ws := (Cond.code yJ1_charAt_3b067 cJ1_charAt_3b067 2 (some .char) :: wsM)) B.pre
  have hown : s.vm.findClass RJ1 = some m.cls := findClass_of_methodNamed B.named
  have hlocks := B.notSynchronized
  have hS : va_S (fun _ : Nat => False) s.heap s.heap [] := va_S.rf
  have hl := lv_entry ([.ref v, .int (nI k)]) (n := 2) (Nat.le_of_ble_eq_true rfl)
  rw [lg_entry_eq]
  generalize (lg_sl ([.ref v, .int (nI k)]) ++ List.replicate (2 - (lg_sl ([.ref v, .int (nI k)])).length) Slot.unset).toArray = ls at hl ⊢
  have hl : lv_has ls 2 [(0, .ref v), (1, .int (nI k))] := hl
  obtain ⟨h4, h5⟩ := hv
  refine lv_iload_n hx hb dJ1_charAt_3b067_0 rfl (lv_at hl 1 rfl) ?_
  refine lv_aload_n hx hb dJ1_charAt_3b067_1 rfl (lv_at hl 0 rfl) ?_
  refine va_tlen (v := nI n) hx hb h4 hS rfl dJ1_charAt_3b067_2 ?_
  refine s_statv (As := [.int (nI k), .int (nI n)]) (rest := []) ⟨hx, hb, hml, hown, hts⟩ (j_ck0 l hk hn) ⟨callB_of 2 hts (gmIn (L := []) (fun _ h => absurd h List.not_mem_nil) qM_84) rfl rfl rfl (hts _ (.tail _ qM_61)) (hts _ (.tail _ qM_82)) (by decide +kernel) ⟨Nat.le_of_ble_eq_true rfl, Nat.le_of_ble_eq_true rfl⟩, hts _ (.tail _ qM_83)⟩ (fun _ U g mk h => sZ.moved (u := U) (Vm.Alike.refl U.vm) h) (fun U hU hW => by rw [hU]; exact sZ.moved hW.alike h5) rfl hl.1 rfl (lv_room (Nat.le_of_ble_eq_true rfl)) dJ1_charAt_3b067_3 ⟨Nat.zero_le _, Nat.zero_le _⟩ ?_
  refine lv_aload_n hx hb dJ1_charAt_3b067_6 rfl (lv_at hl 0 rfl) ?_
  refine lv_iload_n hx hb dJ1_charAt_3b067_7 rfl (lv_at hl 1 rfl) ?_
  refine va_tb (v := .int (f k)) hx hb h4 hS (vp_in_nI hk hn) (by rw [nI_clamp (Nat.lt_trans hk hn)]) dJ1_charAt_3b067_8 ?_
  refine lv_sipush (v := 255) hx hb dJ1_charAt_3b067_9 (by decide) ?_
  refine lv_iand hx hb dJ1_charAt_3b067_12 ?_
  refine lv_i2c (v := s_ch (f k)) hx hb dJ1_charAt_3b067_13 rfl ?_
  exact W.zret (v := (s_ch (f k))) hx hb hr hc (fun t ht hW => ⟨(s_ch (f k)), rfl, rfl, ht⟩) (fun _ h => absurd h List.not_mem_nil) dJ1_charAt_3b067_14
set_option maxHeartbeats 4000000 in
set_option maxRecDepth 100000 in
theorem j_charAt (l : Launch) {tx : Nat × (Nat → Int32)} {q : Nat} {k : Nat} (hk : k < tx.1) (hn : tx.1 < 2 ^ 31) (hc : narrow .char (.int (s_ch (tx.2 k))) = .int (s_ch (tx.2 k))) : Met l yJ0_charAt_5068e (Cond.code yJ0_charAt_5068e cJ0_charAt_5068e 2 (some .char) :: wsM) { frames := 4, cells := 0, slots := 0, locals := 66 } (va_Pc [.ref q, .int (nI k)] (sP tx q)) (vp_Si (fun r => r = s_ch (tx.2 k))) 0 0 (fun _ => False) := by
  refine Met.ofW (cc := cJ0_charAt_5068e) (maxL := 2) (ret := (some .char)) (by decide) rfl ?_
  intro p e s m args below meth c s₁ B hml hv
  obtain ⟨rfl, hv⟩ := hv
  have hx := B.exec
  have hb := B.bytes
  have hr := B.returns
  have hts := atoms_spec (ws := (Cond.code yJ0_charAt_5068e cJ0_charAt_5068e 2 (some .char) :: wsM)) B.pre
  have hown : s.vm.findClass RJ0 = some m.cls := findClass_of_methodNamed B.named
  have hlocks := B.notSynchronized
  have hS : va_S (fun _ : Nat => False) s.heap s.heap [] := va_S.rf
  have hl := lv_entry ([.ref q, .int (nI k)]) (n := 2) (Nat.le_of_ble_eq_true rfl)
  rw [lg_entry_eq]
  generalize (lg_sl ([.ref q, .int (nI k)]) ++ List.replicate (2 - (lg_sl ([.ref q, .int (nI k)])).length) Slot.unset).toArray = ls at hl ⊢
  have hl : lv_has ls 2 [(0, .ref q), (1, .int (nI k))] := hl
  obtain ⟨⟨v, h1, h2, h3, h4⟩, h5⟩ := id hv
  refine lv_aload_n hx hb dJ0_charAt_5068e_0 rfl (lv_at hl 0 rfl) ?_
  refine s_callV (As := []) (rest := []) ⟨hx, hb, hml, hown, hts⟩ (j_isLatin1 l (tx := tx) (q := q)) (cwV 0 hts (gmV qM_74 qM_75 qM_76 qM_61 qM_77) rfl rfl rfl (by decide +kernel) ⟨Nat.le_of_ble_eq_true rfl, Nat.le_of_ble_eq_true rfl⟩) (h1.elim fun cell h => ⟨cell, h.1, h.2.1, h.2.2.1⟩) (fun _ _ _ _ h => h.blind) (fun U hU hW => ⟨by rw [hU]; exact sO.moved hW.alike hv.1, by rw [hU]; exact sZ.moved hW.alike hv.2⟩) rfl hl.1 rfl (lv_room (Nat.le_of_ble_eq_true rfl)) dJ0_charAt_5068e_1 ⟨Nat.zero_le _, Nat.zero_le _⟩ (fun r hq => ?_)
  refine lv_to hq ?_
  refine lv_if_eq (tgt := 16) hx hb dJ0_charAt_5068e_4 (by decide) (fun h => absurd h (by decide)) (fun _ => ?_)
  refine lv_aload_n hx hb dJ0_charAt_5068e_7 rfl (lv_at hl 0 rfl) ?_
  refine vk_getf hx hb h3 hS hown (hts _ (.tail _ qM_63)) (fun _ h => h) dJ0_charAt_5068e_8 ?_
  refine lv_iload_n hx hb dJ0_charAt_5068e_11 rfl (lv_at hl 1 rfl) ?_
  refine s_stat (As := [.ref v, .int (nI k)]) (rest := []) ⟨hx, hb, hml, hown, hts⟩ (j_ch1 l (v := v) (n := tx.1) (f := tx.2) hk hn hc) ⟨callB_of 2 hts (gmIn (L := []) (fun _ h => absurd h List.not_mem_nil) qM_81) rfl rfl rfl (hts _ (.tail _ qM_80)) (hts _ (.tail _ qM_78)) (by decide +kernel) ⟨Nat.le_of_ble_eq_true rfl, Nat.le_of_ble_eq_true rfl⟩, hts _ (.tail _ qM_79)⟩ (fun _ U g mk h => ⟨va_T.moved (u := U) (Vm.Alike.refl U.vm) h.1, sZ.moved (u := U) (Vm.Alike.refl U.vm) h.2⟩) (fun U hU hW => ⟨by rw [hU]; exact va_T.moved hW.alike h4, by rw [hU]; exact sZ.moved hW.alike h5⟩) rfl hl.1 rfl (lv_room (Nat.le_of_ble_eq_true rfl)) dJ0_charAt_5068e_12 ⟨Nat.zero_le _, Nat.zero_le _⟩ (fun r hq => ?_)
  refine lv_to hq ?_
  exact W.zret (v := (s_ch (tx.2 k))) hx hb hr hc (fun t ht hW => ⟨(s_ch (tx.2 k)), rfl, rfl, ht⟩) (fun _ h => absurd h List.not_mem_nil) dJ0_charAt_5068e_15
/-- the text of a String constant -/
def sTx (t : String) : Nat × (Nat → Int32) := (t.length, fun j => Int32.ofNat (t.toList.getD j 'a').toNat)
def sT (tx : Nat × (Nat → Int32)) : Prop := tx.1 < 2 ^ 31 ∧ ∀ k, k < tx.1 → narrow .char (.int (s_ch (tx.2 k))) = .int (s_ch (tx.2 k))
theorem sTx_ok {t : String} (h : (decide (t.length < 2 ^ 31) && (List.range t.length).all (fun k => decide (s_ch ((sTx t).2 k) = (sTx t).2 k) && decide (0 ≤ (sTx t).2 k) && decide ((sTx t).2 k < 128))) = true) : sT (sTx t) := by
  obtain ⟨h1, h2⟩ := (Bool.and_eq_true _ _).mp h
  refine ⟨of_decide_eq_true h1, fun k hk => ?_⟩
  have h3 := List.all_eq_true.mp h2 k (List.mem_range.mpr hk)
  obtain ⟨h4, h5⟩ := (Bool.and_eq_true _ _).mp h3
  obtain ⟨h6, h7⟩ := (Bool.and_eq_true _ _).mp h4
  rw [of_decide_eq_true h6]
  obtain ⟨j, hj, e⟩ := nI_of (Int32.not_lt.mpr (of_decide_eq_true h7))
  have h8 : (sTx t).2 k < 128 := of_decide_eq_true h5
  rw [e] at h8 ⊢
  have h9 : j < 128 := by
    have := Int32.lt_iff_toInt_lt.mp h8
    rw [nI_toInt hj] at this
    have h0 : (128 : Int32).toInt = 128 := by decide
    omega
  have hall : ∀ j, j < 128 → narrow .char (.int (nI j)) = .int (nI j) := by decide +kernel
  exact hall j h9
def sAll (h0 : Nat) (U : State) : Prop := (∀ x ∈ sL, ∃ q, vk_R x.1 x.2.1 x.2.2 q U ∧ sO (sTx x.2.2) q (fun a => h0 ≤ a) U U.heap) ∧ sZ (fun a => h0 ≤ a) U U.heap
def xT0 (cI cJ cZ : ClassId) (h0 : Nat) (ad : Nat → Nat) (S : MS) (sz : Nat) (U : State) : Prop := (∀ a, va_A (MW cI cJ cZ ad S) sz a → h0 ≤ a) ∧ sAll h0 U
def xT1 (cI cJ cZ : ClassId) (h0 : Nat) (ad : Nat → Nat) (S : MS) (tx : Nat × (Nat → Int32)) (q sz : Nat) (U : State) : Prop := xT0 cI cJ cZ h0 ad S sz U ∧ sO tx q (fun a => h0 ≤ a) U U.heap
theorem sAll.moved {h0 : Nat} {A : Nat → Prop} {s U : State} {H : Heap} {locs : List Loc} (hT : sAll h0 s) (hA0 : ∀ a : Nat, A a → h0 ≤ a) (hS : va_S A s.heap H locs) (hU : U.heap = H) (hW : s.WarmedH U.vm) : sAll h0 U := by
  have hk : ∀ a : Nat, a < s.heap.size → ¬ h0 ≤ a → H[a]? = s.heap[a]? := fun a h1 h2 => hS.2.1 a h1 (fun h3 => h2 (hA0 a h3))
  refine ⟨fun x hx => ?_, by rw [hU]; exact sZ.moved hW.alike (hT.2.kept hk)⟩
  obtain ⟨q, h1, h2⟩ := hT.1 x hx
  exact ⟨q, vk_R.warm hW h1, by rw [hU]; exact sO.moved hW.alike (h2.kept hk)⟩
theorem sAll.blind {h0 : Nat} {U : State} {g : JFrame} {mk : MethodId} {a : Array Value} (h : sAll h0 U) : sAll h0 (U.calling g mk a) :=
  ⟨fun x hx => (h.1 x hx).elim fun q h => ⟨q, vk_R.same rfl h.1, sO.moved (u := U) (U := U.calling g mk a) (Vm.Alike.refl U.vm) h.2⟩, sZ.moved (u := U) (U := U.calling g mk a) (Vm.Alike.refl U.vm) h.2⟩
theorem xT0.blind {cI cJ cZ : ClassId} {h0 : Nat} {ad : Nat → Nat} {S : MS} (sz : Nat) (a : Array Value) (U : State) (g : JFrame) (mk : MethodId) (h : xT0 cI cJ cZ h0 ad S sz U) : xT0 cI cJ cZ h0 ad S sz (U.calling g mk a) := ⟨h.1, h.2.blind⟩
theorem xT1.blind {cI cJ cZ : ClassId} {h0 : Nat} {ad : Nat → Nat} {S : MS} {tx : Nat × (Nat → Int32)} {q : Nat} (sz : Nat) (a : Array Value) (U : State) (g : JFrame) (mk : MethodId) (h : xT1 cI cJ cZ h0 ad S tx q sz U) : xT1 cI cJ cZ h0 ad S tx q sz (U.calling g mk a) := ⟨⟨h.1.1, h.1.2.blind⟩, sO.moved (u := U) (U := U.calling g mk a) (Vm.Alike.refl U.vm) h.2⟩
theorem xT0.go {D : va_G} {cI cJ cZ : ClassId} {h0 : Nat} {ad : Nat → Nat} {S : MS} {A : Nat → Prop} {s : State} {H : Heap} {locs : List Loc} (hT : sAll h0 s) (hA0 : ∀ a : Nat, A a → h0 ≤ a) (hA : ∀ q : Nat, s.heap.size ≤ q → A q) (G : mG D cI cJ cZ ad A s.heap H locs S) (U : State) (hU : U.heap = H) (hW : s.WarmedH U.vm) : xT0 cI cJ cZ h0 ad S H.size U :=
  ⟨fun a h => hA0 a (va_free (wc := MW cI cJ cZ ad S) G.2.1 G.2.2 hA [0, 1, 2, 3, 4, 5, 6, 7, 8, 9, 10, 11, 12, 13, 14, 15, 16] rfl a h), hT.moved hA0 G.2.2 hU hW⟩
theorem xT1.go {D : va_G} {cI cJ cZ : ClassId} {h0 : Nat} {ad : Nat → Nat} {S : MS} {A : Nat → Prop} {s : State} {H : Heap} {locs : List Loc} {tx : Nat × (Nat → Int32)} {q : Nat} (hT : sAll h0 s) (hA0 : ∀ a : Nat, A a → h0 ≤ a) (hA : ∀ q : Nat, s.heap.size ≤ q → A q) (G : mG D cI cJ cZ ad A s.heap H locs S) (hO : sO tx q (fun a => h0 ≤ a) s s.heap) (U : State) (hU : U.heap = H) (hW : s.WarmedH U.vm) : xT1 cI cJ cZ h0 ad S tx q H.size U :=
  ⟨xT0.go hT hA0 hA G U hU hW, by rw [hU]; exact sO.moved hW.alike (hO.kept (fun a h1 h2 => G.2.2.2.1 a h1 (fun h3 => h2 (hA0 a h3))))⟩
theorem sO.recv {tx : Nat × (Nat → Int32)} {q h0 : Nat} {A : Nat → Prop} {s : State} {H : Heap} {locs : List Loc} (hO : sO tx q (fun a => h0 ≤ a) s s.heap) (hA0 : ∀ a : Nat, A a → h0 ≤ a) (hS : va_S A s.heap H locs) : ∃ cell : Cell, H[q]? = some cell ∧ cell.vm.isStatics = false ∧ s.vm.findClass RJ0 = some cell.cls := by
  obtain ⟨v, h1, -⟩ := hO.kept (fun a h1 h2 => hS.2.1 a h1 (fun h3 => h2 (hA0 a h3)))
  obtain ⟨cell, g1, g2, g3, -⟩ := h1
  exact ⟨cell, g1, g2, g3⟩
theorem sP.go {tx : Nat × (Nat → Int32)} {q h0 : Nat} {A : Nat → Prop} {s : State} {H : Heap} {locs : List Loc} (hO : sO tx q (fun a => h0 ≤ a) s s.heap) (hZ : sZ (fun a => h0 ≤ a) s s.heap) (hA0 : ∀ a : Nat, A a → h0 ≤ a) (hS : va_S A s.heap H locs) (U : State) (hU : U.heap = H) (hW : s.WarmedH U.vm) : sP tx q U := by
  have hk : ∀ a : Nat, a < s.heap.size → ¬ h0 ≤ a → H[a]? = s.heap[a]? := fun a h1 h2 => hS.2.1 a h1 (fun h3 => h2 (hA0 a h3))
  exact ⟨by rw [hU]; exact (sO.moved hW.alike (hO.kept hk)).narrow (fun _ h => h.elim), by rw [hU]; exact (sZ.moved hW.alike (hZ.kept hk)).narrow (fun _ h => h.elim)⟩
abbrev mCiX (l : Launch) (y : MethodName) (ws : List Cond) (fr lo : Nat) (D : va_G) (cI cJ cZ : ClassId) (ad : Nat → Nat) (S : MS) (As : List Value) (X : Nat → State → Prop) (post : Int32 → MS → Prop) : Prop := ∀ sz : Nat, Met l y ws { frames := fr, cells := 0, slots := 0, locals := lo } (va_Pc (.ref (ad 0) :: As) (fun U => mB D cI cJ cZ ad S sz U ∧ X sz U)) (va_Qi post (mAt D cI cJ cZ ad (va_A (MW cI cJ cZ ad S) sz)) (va_A (MW cI cJ cZ ad S) sz)) 0 0 (va_A (MW cI cJ cZ ad S) sz)
theorem m_calliX {p : Program} {l : Launch} {e : Env} {R : Room} {s : State} {m : MethodId} {args : Array Value} {below : List Frame} {meth : Method} {c : Code} {H : Heap} {locs : List Loc} {cells slots : Nat} {Q : State → Prop} {cc : ByteArray} {pc : Nat} {ls : Array Slot} {rest : List Value} {D : va_G} {A : Nat → Prop} {H0 : Heap} {Ts : List Cond} {cI cJ cZ : ClassId} {ad : Nat → Nat} {S : MS} {y : MethodName} {bytes : ByteArray} {maxL nL n index fr lo : Nat} {ret : Option FieldType} {ws : List Cond} {As : List Value} {X : Nat → State → Prop} {post : Int32 → MS → Prop} (E : mE p c cc s m args Ts D cI cJ cZ) (G : mG D cI cJ cZ ad A H0 H locs S) (hA : ∀ q, H0.size ≤ q → A q) (hR : sR s) (hml : c.maxLocals = nL) (hM : mCiX l y ws fr lo D cI cJ cZ ad S As X post) (cw : CallW R s args RX12 RX12 index y bytes maxL ret ws { frames := fr, cells := 0, slots := 0, locals := lo } 0 0 n) (hn : As.length = n) (hsz : ls.size = nL) {st : List Value} (hst : st = As.reverse ++ .ref (ad 0) :: rest) (hW : 2 * (F0 m pc ls st).monitorRoom + (rest.map fun v => v.category).sum ≤ 8) (hdg : decode cc pc = .ok (.invokevirtual index, 3)) (hf : cells ≤ R.cells ∧ slots ≤ R.slots) (hXb : ∀ (sz : Nat) (a : Array Value) (U : State) (g : JFrame) (mk : MethodId), X sz U → X sz (U.calling g mk a)) (hXp : ∀ U : State, U.heap = H → s.WarmedH U.vm → X H.size U) (kk : ∀ (r : Int32) (S1 : MS) (H1 : Heap) (locs1 : List Loc), post r S1 → mG D cI cJ cZ ad A H0 H1 locs1 S1 → W p l e R s m args below meth c H1 locs1 cells slots Q (F0 m (pc + 3) ls (.int r :: rest))) : W p l e R s m args below meth c H locs cells slots Q (F0 m pc ls st) := by
  obtain ⟨hx, hb, hts, hown, hK, hin⟩ := E
  obtain ⟨hP, hD, hS⟩ := G
  have hFc := va_free (wc := MW cI cJ cZ ad S) hD hS hA [0, 1, 2, 3, 4, 5, 6, 7, 8, 9, 10, 11, 12, 13, 14, 15, 16] rfl
  refine va_calli (va_runV (As := As) (rest := rest) ⟨hx, hb, hml, hown, hts⟩ (hM H.size) cw ⟨fun a U g mk q => by obtain ⟨q0, ⟨q1, qP, qK, qD, qR⟩, qX⟩ := q; exact ⟨q0, ⟨q1, qP, va_K.moved (u := U) (U := U.calling g mk a) (Vm.Alike.refl U.vm) qK, qD, qR.blind⟩, hXb _ _ _ _ _ qX⟩, va_recv hK hP (ci := 12) (q0 := 0) rfl rfl, fun U hU hW => ⟨rfl, ⟨by rw [hU], by rw [hU]; exact hP, va_K.moved hW.alike hK, hD.weaken (fun _ _ _ _ => trivial), hR.warm hW⟩, hXp U hU hW⟩⟩ rfl hn hsz hst hW hdg hf) hS (fun q _ h => hFc q h) hFc (fun r u t H1 locs1 ht hvm hw hB hz1 hk1 hS => ?_)
  obtain ⟨hP1, hK1, hD1⟩ := hB
  rw [ht] at hP1
  obtain ⟨hP2, hD2⟩ := va_join (wr := []) (w1 := MW cI cJ cZ ad u) hP hD [0, 1, 2, 3, 4, 5, 6, 7, 8, 9, 10, 11, 12, 13, 14, 15, 16] [] rfl rfl (by decide) (by decide) hk1 hFc hP1 hD1
  exact kk r u H1 locs1 hw ⟨hP2, hD2, hS⟩
abbrev mCvX (l : Launch) (y : MethodName) (ws : List Cond) (fr lo : Nat) (D : va_G) (cI cJ cZ : ClassId) (ad : Nat → Nat) (S : MS) (As : List Value) (X : Nat → State → Prop) (post : MS → Prop) : Prop := ∀ sz : Nat, Met l y ws { frames := fr, cells := 0, slots := 0, locals := lo } (va_Pc (.ref (ad 0) :: As) (fun U => mB D cI cJ cZ ad S sz U ∧ X sz U)) (va_Qv post (mAt D cI cJ cZ ad (va_A (MW cI cJ cZ ad S) sz)) (va_A (MW cI cJ cZ ad S) sz)) 0 0 (va_A (MW cI cJ cZ ad S) sz)
theorem m_callvX {p : Program} {l : Launch} {e : Env} {R : Room} {s : State} {m : MethodId} {args : Array Value} {below : List Frame} {meth : Method} {c : Code} {H : Heap} {locs : List Loc} {cells slots : Nat} {Q : State → Prop} {cc : ByteArray} {pc : Nat} {ls : Array Slot} {rest : List Value} {D : va_G} {A : Nat → Prop} {H0 : Heap} {Ts : List Cond} {cI cJ cZ : ClassId} {ad : Nat → Nat} {S : MS} {y : MethodName} {bytes : ByteArray} {maxL nL n index fr lo : Nat} {ret : Option FieldType} {ws : List Cond} {As : List Value} {X : Nat → State → Prop} {post : MS → Prop} (E : mE p c cc s m args Ts D cI cJ cZ) (G : mG D cI cJ cZ ad A H0 H locs S) (hA : ∀ q, H0.size ≤ q → A q) (hR : sR s) (hml : c.maxLocals = nL) (hM : mCvX l y ws fr lo D cI cJ cZ ad S As X post) (cw : CallW R s args RX12 RX12 index y bytes maxL ret ws { frames := fr, cells := 0, slots := 0, locals := lo } 0 0 n) (hn : As.length = n) (hsz : ls.size = nL) {st : List Value} (hst : st = As.reverse ++ .ref (ad 0) :: rest) (hW : 2 * (F0 m pc ls st).monitorRoom + (rest.map fun v => v.category).sum ≤ 8) (hdg : decode cc pc = .ok (.invokevirtual index, 3)) (hf : cells ≤ R.cells ∧ slots ≤ R.slots) (hXb : ∀ (sz : Nat) (a : Array Value) (U : State) (g : JFrame) (mk : MethodId), X sz U → X sz (U.calling g mk a)) (hXp : ∀ U : State, U.heap = H → s.WarmedH U.vm → X H.size U) (kk : ∀ (S1 : MS) (H1 : Heap) (locs1 : List Loc), post S1 → mG D cI cJ cZ ad A H0 H1 locs1 S1 → W p l e R s m args below meth c H1 locs1 cells slots Q (F0 m (pc + 3) ls rest)) : W p l e R s m args below meth c H locs cells slots Q (F0 m pc ls st) := by
  obtain ⟨hx, hb, hts, hown, hK, hin⟩ := E
  obtain ⟨hP, hD, hS⟩ := G
  have hFc := va_free (wc := MW cI cJ cZ ad S) hD hS hA [0, 1, 2, 3, 4, 5, 6, 7, 8, 9, 10, 11, 12, 13, 14, 15, 16] rfl
  refine va_callv (va_runV (As := As) (rest := rest) ⟨hx, hb, hml, hown, hts⟩ (hM H.size) cw ⟨fun a U g mk q => by obtain ⟨q0, ⟨q1, qP, qK, qD, qR⟩, qX⟩ := q; exact ⟨q0, ⟨q1, qP, va_K.moved (u := U) (U := U.calling g mk a) (Vm.Alike.refl U.vm) qK, qD, qR.blind⟩, hXb _ _ _ _ _ qX⟩, va_recv hK hP (ci := 12) (q0 := 0) rfl rfl, fun U hU hW => ⟨rfl, ⟨by rw [hU], by rw [hU]; exact hP, va_K.moved hW.alike hK, hD.weaken (fun _ _ _ _ => trivial), hR.warm hW⟩, hXp U hU hW⟩⟩ rfl hn hsz hst hW hdg hf) hS (fun q _ h => hFc q h) hFc (fun u t H1 locs1 ht hvm hw hB hz1 hk1 hS => ?_)
  obtain ⟨hP1, hK1, hD1⟩ := hB
  rw [ht] at hP1
  obtain ⟨hP2, hD2⟩ := va_join (wr := []) (w1 := MW cI cJ cZ ad u) hP hD [0, 1, 2, 3, 4, 5, 6, 7, 8, 9, 10, 11, 12, 13, 14, 15, 16] [] rfl rfl (by decide) (by decide) hk1 hFc hP1 hD1
  exact kk u H1 locs1 hw ⟨hP2, hD2, hS⟩
end
section
/-! 11ba.cc.lean.txt -/
/-- the class's world by numbers: how many cells, what each is (class or kind of array, length), its ints, its longs, its references (cells by number) -/
abbrev AT : Type := Nat × (Nat → Nat × Nat) × (Nat → Nat → Int32) × (Nat → Nat → Int64) × (Nat → Nat → Option Nat)
def ccv (cI cJ cZ cMic cSrc cSt cAI cAJ : ClassId) (ad : Nat → Nat) (sh : Nat × Nat) (vi : Nat → Int32) (vj : Nat → Int64) (vr : Nat → Option Nat) : va_E := match sh.1 with
  | 0 => .inr (0, [va_rf ((vr 0).map ad)])
  | 1 => .inr (1, [.int (vi 0), .int (vi 1), .int (vi 2), .int (vi 3), .int (vi 4), va_rf ((vr 5).map ad), va_rf ((vr 6).map ad), .int (vi 7), va_rf ((vr 8).map ad)])
  | 2 => .inr (2, [.int (vi 0), .int (vi 1), .int (vi 2), .int (vi 3)])
  | 3 => .inr (3, [va_rf ((vr 0).map ad), .int (vi 1), .int (vi 2), .int (vi 3)])
  | 4 => .inr (4, [.int (vi 0), va_rf ((vr 1).map ad), .int (vi 2), .int (vi 3), va_rf ((vr 4).map ad), va_rf ((vr 5).map ad)])
  | 5 => .inr (5, [va_rf ((vr 0).map ad), va_rf ((vr 1).map ad)])
  | 6 => .inr (6, [.int (vi 0), .int (vi 1), .int (vi 2), .int (vi 3), va_rf ((vr 4).map ad), .int (vi 5), va_rf ((vr 6).map ad), va_rf ((vr 7).map ad), .int (vi 8), va_rf ((vr 9).map ad), va_rf ((vr 10).map ad), .int (vi 11), .int (vi 12), va_rf ((vr 13).map ad), .int (vi 14), va_rf ((vr 15).map ad), .int (vi 16), va_rf ((vr 17).map ad)])
  | 7 => .inr (7, [.int (vi 0), .int (vi 1), .int (vi 2), .int (vi 3), .int (vi 4), .int (vi 5), .int (vi 6), .int (vi 7), .int (vi 8), .int (vi 9)])
  | 8 => .inr (8, [.int (vi 0), .int (vi 1), .int (vi 2), va_rf ((vr 3).map ad), va_rf ((vr 4).map ad), va_rf ((vr 5).map ad), va_rf ((vr 6).map ad), va_rf ((vr 7).map ad), va_rf ((vr 8).map ad), va_rf ((vr 9).map ad), va_rf ((vr 10).map ad), va_rf ((vr 11).map ad)])
  | 9 => .inr (9, [va_rf ((vr 0).map ad), .int (vi 1), va_rf ((vr 2).map ad), va_rf ((vr 3).map ad), va_rf ((vr 4).map ad), .int (vi 5)])
  | 10 => .inr (10, [.int (vi 0), va_rf ((vr 1).map ad), .int (vi 2)])
  | 11 => .inr (11, [va_rf ((vr 0).map ad), va_rf ((vr 1).map ad), va_rf ((vr 2).map ad), va_rf ((vr 3).map ad), va_rf ((vr 4).map ad), va_rf ((vr 5).map ad), va_rf ((vr 6).map ad), va_rf ((vr 7).map ad), va_rf ((vr 8).map ad), va_rf ((vr 9).map ad), va_rf ((vr 10).map ad), va_rf ((vr 11).map ad), va_rf ((vr 12).map ad), va_rf ((vr 13).map ad), va_rf ((vr 14).map ad), va_rf ((vr 15).map ad), .int (vi 16), .int (vi 17), .int (vi 18)])
  | 100 => .inl (cI, sh.2, .inl vi)
  | 101 => .inl (cJ, sh.2, .inr (.inl vj))
  | 102 => .inl (cZ, sh.2, .inl vi)
  | 103 => .inl (cMic, sh.2, .inr (.inr (.inr (.inr (fun i => (vr i).map ad)))))
  | 104 => .inl (cSrc, sh.2, .inr (.inr (.inr (.inr (fun i => (vr i).map ad)))))
  | 105 => .inl (cSt, sh.2, .inr (.inr (.inr (.inr (fun i => (vr i).map ad)))))
  | 106 => .inl (cAI, sh.2, .inr (.inr (.inr (.inr (fun i => (vr i).map ad)))))
  | 107 => .inl (cAJ, sh.2, .inr (.inr (.inr (.inr (fun i => (vr i).map ad)))))
  | _ => .inr (0, [])
def cc (cI cJ cZ cMic cSrc cSt cAI cAJ : ClassId) (ad : Nat → Nat) (T : AT) (n : Nat) : va_E := ccv cI cJ cZ cMic cSrc cSt cAI cAJ ad (T.2.1 n) (T.2.2.1 n) (T.2.2.2.1 n) (T.2.2.2.2 n)
def uI (T : AT) (n k : Nat) (v : Int32) : AT := (T.1, T.2.1, va_up T.2.2.1 n (upd (T.2.2.1 n) k v), T.2.2.2)
def uJ (T : AT) (n k : Nat) (v : Int64) : AT := (T.1, T.2.1, T.2.2.1, va_up T.2.2.2.1 n (vp_updL (T.2.2.2.1 n) k v), T.2.2.2.2)
def uR (T : AT) (n k q : Nat) : AT := (T.1, T.2.1, T.2.2.1, T.2.2.2.1, va_up T.2.2.2.2 n (va_up (T.2.2.2.2 n) k (some q)))
def oO (T : AT) (n c : Nat) : Bool := Nat.blt n T.1 && decide (T.2.1 n = (c, 0))
def aA (T : AT) (n c : Nat) : Bool := Nat.blt n T.1 && (decide ((T.2.1 n).1 = c) && Nat.blt (T.2.1 n).2 (2 ^ 31))
theorem oO_k {T : AT} {n c : Nat} (h : oO T n c = true) : n < T.1 ∧ T.2.1 n = (c, 0) := ⟨Nat.le_of_ble_eq_true ((Bool.and_eq_true _ _).mp h).1, of_decide_eq_true ((Bool.and_eq_true _ _).mp h).2⟩
theorem aA_k {T : AT} {n c : Nat} (h : aA T n c = true) : n < T.1 ∧ (T.2.1 n).1 = c ∧ (T.2.1 n).2 < 2 ^ 31 := ⟨Nat.le_of_ble_eq_true ((Bool.and_eq_true _ _).mp h).1, of_decide_eq_true ((Bool.and_eq_true _ _).mp ((Bool.and_eq_true _ _).mp h).2).1, Nat.le_of_ble_eq_true ((Bool.and_eq_true _ _).mp ((Bool.and_eq_true _ _).mp h).2).2⟩
theorem cc_o0 {cI cJ cZ cMic cSrc cSt cAI cAJ : ClassId} {ad : Nat → Nat} {T : AT} {n : Nat} (h : T.2.1 n = (0, 0)) : cc cI cJ cZ cMic cSrc cSt cAI cAJ ad T n = .inr (0, [va_rf ((T.2.2.2.2 n 0).map ad)]) := by
  unfold cc
  rw [h]
  rfl
theorem cc_o1 {cI cJ cZ cMic cSrc cSt cAI cAJ : ClassId} {ad : Nat → Nat} {T : AT} {n : Nat} (h : T.2.1 n = (1, 0)) : cc cI cJ cZ cMic cSrc cSt cAI cAJ ad T n = .inr (1, [.int (T.2.2.1 n 0), .int (T.2.2.1 n 1), .int (T.2.2.1 n 2), .int (T.2.2.1 n 3), .int (T.2.2.1 n 4), va_rf ((T.2.2.2.2 n 5).map ad), va_rf ((T.2.2.2.2 n 6).map ad), .int (T.2.2.1 n 7), va_rf ((T.2.2.2.2 n 8).map ad)]) := by
  unfold cc
  rw [h]
  rfl
theorem cc_o2 {cI cJ cZ cMic cSrc cSt cAI cAJ : ClassId} {ad : Nat → Nat} {T : AT} {n : Nat} (h : T.2.1 n = (2, 0)) : cc cI cJ cZ cMic cSrc cSt cAI cAJ ad T n = .inr (2, [.int (T.2.2.1 n 0), .int (T.2.2.1 n 1), .int (T.2.2.1 n 2), .int (T.2.2.1 n 3)]) := by
  unfold cc
  rw [h]
  rfl
theorem cc_o3 {cI cJ cZ cMic cSrc cSt cAI cAJ : ClassId} {ad : Nat → Nat} {T : AT} {n : Nat} (h : T.2.1 n = (3, 0)) : cc cI cJ cZ cMic cSrc cSt cAI cAJ ad T n = .inr (3, [va_rf ((T.2.2.2.2 n 0).map ad), .int (T.2.2.1 n 1), .int (T.2.2.1 n 2), .int (T.2.2.1 n 3)]) := by
  unfold cc
  rw [h]
  rfl
theorem cc_o4 {cI cJ cZ cMic cSrc cSt cAI cAJ : ClassId} {ad : Nat → Nat} {T : AT} {n : Nat} (h : T.2.1 n = (4, 0)) : cc cI cJ cZ cMic cSrc cSt cAI cAJ ad T n = .inr (4, [.int (T.2.2.1 n 0), va_rf ((T.2.2.2.2 n 1).map ad), .int (T.2.2.1 n 2), .int (T.2.2.1 n 3), va_rf ((T.2.2.2.2 n 4).map ad), va_rf ((T.2.2.2.2 n 5).map ad)]) := by
  unfold cc
  rw [h]
  rfl
theorem cc_o5 {cI cJ cZ cMic cSrc cSt cAI cAJ : ClassId} {ad : Nat → Nat} {T : AT} {n : Nat} (h : T.2.1 n = (5, 0)) : cc cI cJ cZ cMic cSrc cSt cAI cAJ ad T n = .inr (5, [va_rf ((T.2.2.2.2 n 0).map ad), va_rf ((T.2.2.2.2 n 1).map ad)]) := by
  unfold cc
  rw [h]
  rfl
theorem cc_o6 {cI cJ cZ cMic cSrc cSt cAI cAJ : ClassId} {ad : Nat → Nat} {T : AT} {n : Nat} (h : T.2.1 n = (6, 0)) : cc cI cJ cZ cMic cSrc cSt cAI cAJ ad T n = .inr (6, [.int (T.2.2.1 n 0), .int (T.2.2.1 n 1), .int (T.2.2.1 n 2), .int (T.2.2.1 n 3), va_rf ((T.2.2.2.2 n 4).map ad), .int (T.2.2.1 n 5), va_rf ((T.2.2.2.2 n 6).map ad), va_rf ((T.2.2.2.2 n 7).map ad), .int (T.2.2.1 n 8), va_rf ((T.2.2.2.2 n 9).map ad), va_rf ((T.2.2.2.2 n 10).map ad), .int (T.2.2.1 n 11), .int (T.2.2.1 n 12), va_rf ((T.2.2.2.2 n 13).map ad), .int (T.2.2.1 n 14), va_rf ((T.2.2.2.2 n 15).map ad), .int (T.2.2.1 n 16), va_rf ((T.2.2.2.2 n 17).map ad)]) := by
  unfold cc
  rw [h]
  rfl
theorem cc_o7 {cI cJ cZ cMic cSrc cSt cAI cAJ : ClassId} {ad : Nat → Nat} {T : AT} {n : Nat} (h : T.2.1 n = (7, 0)) : cc cI cJ cZ cMic cSrc cSt cAI cAJ ad T n = .inr (7, [.int (T.2.2.1 n 0), .int (T.2.2.1 n 1), .int (T.2.2.1 n 2), .int (T.2.2.1 n 3), .int (T.2.2.1 n 4), .int (T.2.2.1 n 5), .int (T.2.2.1 n 6), .int (T.2.2.1 n 7), .int (T.2.2.1 n 8), .int (T.2.2.1 n 9)]) := by
  unfold cc
  rw [h]
  rfl
theorem cc_o8 {cI cJ cZ cMic cSrc cSt cAI cAJ : ClassId} {ad : Nat → Nat} {T : AT} {n : Nat} (h : T.2.1 n = (8, 0)) : cc cI cJ cZ cMic cSrc cSt cAI cAJ ad T n = .inr (8, [.int (T.2.2.1 n 0), .int (T.2.2.1 n 1), .int (T.2.2.1 n 2), va_rf ((T.2.2.2.2 n 3).map ad), va_rf ((T.2.2.2.2 n 4).map ad), va_rf ((T.2.2.2.2 n 5).map ad), va_rf ((T.2.2.2.2 n 6).map ad), va_rf ((T.2.2.2.2 n 7).map ad), va_rf ((T.2.2.2.2 n 8).map ad), va_rf ((T.2.2.2.2 n 9).map ad), va_rf ((T.2.2.2.2 n 10).map ad), va_rf ((T.2.2.2.2 n 11).map ad)]) := by
  unfold cc
  rw [h]
  rfl
theorem cc_o9 {cI cJ cZ cMic cSrc cSt cAI cAJ : ClassId} {ad : Nat → Nat} {T : AT} {n : Nat} (h : T.2.1 n = (9, 0)) : cc cI cJ cZ cMic cSrc cSt cAI cAJ ad T n = .inr (9, [va_rf ((T.2.2.2.2 n 0).map ad), .int (T.2.2.1 n 1), va_rf ((T.2.2.2.2 n 2).map ad), va_rf ((T.2.2.2.2 n 3).map ad), va_rf ((T.2.2.2.2 n 4).map ad), .int (T.2.2.1 n 5)]) := by
  unfold cc
  rw [h]
  rfl
theorem cc_o10 {cI cJ cZ cMic cSrc cSt cAI cAJ : ClassId} {ad : Nat → Nat} {T : AT} {n : Nat} (h : T.2.1 n = (10, 0)) : cc cI cJ cZ cMic cSrc cSt cAI cAJ ad T n = .inr (10, [.int (T.2.2.1 n 0), va_rf ((T.2.2.2.2 n 1).map ad), .int (T.2.2.1 n 2)]) := by
  unfold cc
  rw [h]
  rfl
theorem cc_o11 {cI cJ cZ cMic cSrc cSt cAI cAJ : ClassId} {ad : Nat → Nat} {T : AT} {n : Nat} (h : T.2.1 n = (11, 0)) : cc cI cJ cZ cMic cSrc cSt cAI cAJ ad T n = .inr (11, [va_rf ((T.2.2.2.2 n 0).map ad), va_rf ((T.2.2.2.2 n 1).map ad), va_rf ((T.2.2.2.2 n 2).map ad), va_rf ((T.2.2.2.2 n 3).map ad), va_rf ((T.2.2.2.2 n 4).map ad), va_rf ((T.2.2.2.2 n 5).map ad), va_rf ((T.2.2.2.2 n 6).map ad), va_rf ((T.2.2.2.2 n 7).map ad), va_rf ((T.2.2.2.2 n 8).map ad), va_rf ((T.2.2.2.2 n 9).map ad), va_rf ((T.2.2.2.2 n 10).map ad), va_rf ((T.2.2.2.2 n 11).map ad), va_rf ((T.2.2.2.2 n 12).map ad), va_rf ((T.2.2.2.2 n 13).map ad), va_rf ((T.2.2.2.2 n 14).map ad), va_rf ((T.2.2.2.2 n 15).map ad), .int (T.2.2.1 n 16), .int (T.2.2.1 n 17), .int (T.2.2.1 n 18)]) := by
  unfold cc
  rw [h]
  rfl
theorem ccv_100 {cI cJ cZ cMic cSrc cSt cAI cAJ : ClassId} {ad : Nat → Nat} {sh : Nat × Nat} {vi : Nat → Int32} {vj : Nat → Int64} {vr : Nat → Option Nat} (h : sh.1 = 100) : ccv cI cJ cZ cMic cSrc cSt cAI cAJ ad sh vi vj vr = .inl (cI, sh.2, .inl vi) := by
  unfold ccv
  rw [h]
  rfl
theorem cc_a100 {cI cJ cZ cMic cSrc cSt cAI cAJ : ClassId} {ad : Nat → Nat} {T : AT} {n : Nat} (h : (T.2.1 n).1 = 100) : cc cI cJ cZ cMic cSrc cSt cAI cAJ ad T n = .inl (cI, (T.2.1 n).2, .inl (T.2.2.1 n)) := ccv_100 h
theorem ccv_101 {cI cJ cZ cMic cSrc cSt cAI cAJ : ClassId} {ad : Nat → Nat} {sh : Nat × Nat} {vi : Nat → Int32} {vj : Nat → Int64} {vr : Nat → Option Nat} (h : sh.1 = 101) : ccv cI cJ cZ cMic cSrc cSt cAI cAJ ad sh vi vj vr = .inl (cJ, sh.2, .inr (.inl vj)) := by
  unfold ccv
  rw [h]
  rfl
theorem cc_a101 {cI cJ cZ cMic cSrc cSt cAI cAJ : ClassId} {ad : Nat → Nat} {T : AT} {n : Nat} (h : (T.2.1 n).1 = 101) : cc cI cJ cZ cMic cSrc cSt cAI cAJ ad T n = .inl (cJ, (T.2.1 n).2, .inr (.inl (T.2.2.2.1 n))) := ccv_101 h
theorem ccv_102 {cI cJ cZ cMic cSrc cSt cAI cAJ : ClassId} {ad : Nat → Nat} {sh : Nat × Nat} {vi : Nat → Int32} {vj : Nat → Int64} {vr : Nat → Option Nat} (h : sh.1 = 102) : ccv cI cJ cZ cMic cSrc cSt cAI cAJ ad sh vi vj vr = .inl (cZ, sh.2, .inl vi) := by
  unfold ccv
  rw [h]
  rfl
theorem cc_a102 {cI cJ cZ cMic cSrc cSt cAI cAJ : ClassId} {ad : Nat → Nat} {T : AT} {n : Nat} (h : (T.2.1 n).1 = 102) : cc cI cJ cZ cMic cSrc cSt cAI cAJ ad T n = .inl (cZ, (T.2.1 n).2, .inl (T.2.2.1 n)) := ccv_102 h
theorem ccv_103 {cI cJ cZ cMic cSrc cSt cAI cAJ : ClassId} {ad : Nat → Nat} {sh : Nat × Nat} {vi : Nat → Int32} {vj : Nat → Int64} {vr : Nat → Option Nat} (h : sh.1 = 103) : ccv cI cJ cZ cMic cSrc cSt cAI cAJ ad sh vi vj vr = .inl (cMic, sh.2, .inr (.inr (.inr (.inr (fun i => (vr i).map ad))))) := by
  unfold ccv
  rw [h]
  rfl
theorem cc_a103 {cI cJ cZ cMic cSrc cSt cAI cAJ : ClassId} {ad : Nat → Nat} {T : AT} {n : Nat} (h : (T.2.1 n).1 = 103) : cc cI cJ cZ cMic cSrc cSt cAI cAJ ad T n = .inl (cMic, (T.2.1 n).2, .inr (.inr (.inr (.inr (fun i => (T.2.2.2.2 n i).map ad))))) := ccv_103 h
theorem ccv_104 {cI cJ cZ cMic cSrc cSt cAI cAJ : ClassId} {ad : Nat → Nat} {sh : Nat × Nat} {vi : Nat → Int32} {vj : Nat → Int64} {vr : Nat → Option Nat} (h : sh.1 = 104) : ccv cI cJ cZ cMic cSrc cSt cAI cAJ ad sh vi vj vr = .inl (cSrc, sh.2, .inr (.inr (.inr (.inr (fun i => (vr i).map ad))))) := by
  unfold ccv
  rw [h]
  rfl
theorem cc_a104 {cI cJ cZ cMic cSrc cSt cAI cAJ : ClassId} {ad : Nat → Nat} {T : AT} {n : Nat} (h : (T.2.1 n).1 = 104) : cc cI cJ cZ cMic cSrc cSt cAI cAJ ad T n = .inl (cSrc, (T.2.1 n).2, .inr (.inr (.inr (.inr (fun i => (T.2.2.2.2 n i).map ad))))) := ccv_104 h
theorem ccv_105 {cI cJ cZ cMic cSrc cSt cAI cAJ : ClassId} {ad : Nat → Nat} {sh : Nat × Nat} {vi : Nat → Int32} {vj : Nat → Int64} {vr : Nat → Option Nat} (h : sh.1 = 105) : ccv cI cJ cZ cMic cSrc cSt cAI cAJ ad sh vi vj vr = .inl (cSt, sh.2, .inr (.inr (.inr (.inr (fun i => (vr i).map ad))))) := by
  unfold ccv
  rw [h]
  rfl
theorem cc_a105 {cI cJ cZ cMic cSrc cSt cAI cAJ : ClassId} {ad : Nat → Nat} {T : AT} {n : Nat} (h : (T.2.1 n).1 = 105) : cc cI cJ cZ cMic cSrc cSt cAI cAJ ad T n = .inl (cSt, (T.2.1 n).2, .inr (.inr (.inr (.inr (fun i => (T.2.2.2.2 n i).map ad))))) := ccv_105 h
theorem ccv_106 {cI cJ cZ cMic cSrc cSt cAI cAJ : ClassId} {ad : Nat → Nat} {sh : Nat × Nat} {vi : Nat → Int32} {vj : Nat → Int64} {vr : Nat → Option Nat} (h : sh.1 = 106) : ccv cI cJ cZ cMic cSrc cSt cAI cAJ ad sh vi vj vr = .inl (cAI, sh.2, .inr (.inr (.inr (.inr (fun i => (vr i).map ad))))) := by
  unfold ccv
  rw [h]
  rfl
theorem cc_a106 {cI cJ cZ cMic cSrc cSt cAI cAJ : ClassId} {ad : Nat → Nat} {T : AT} {n : Nat} (h : (T.2.1 n).1 = 106) : cc cI cJ cZ cMic cSrc cSt cAI cAJ ad T n = .inl (cAI, (T.2.1 n).2, .inr (.inr (.inr (.inr (fun i => (T.2.2.2.2 n i).map ad))))) := ccv_106 h
theorem ccv_107 {cI cJ cZ cMic cSrc cSt cAI cAJ : ClassId} {ad : Nat → Nat} {sh : Nat × Nat} {vi : Nat → Int32} {vj : Nat → Int64} {vr : Nat → Option Nat} (h : sh.1 = 107) : ccv cI cJ cZ cMic cSrc cSt cAI cAJ ad sh vi vj vr = .inl (cAJ, sh.2, .inr (.inr (.inr (.inr (fun i => (vr i).map ad))))) := by
  unfold ccv
  rw [h]
  rfl
theorem cc_a107 {cI cJ cZ cMic cSrc cSt cAI cAJ : ClassId} {ad : Nat → Nat} {T : AT} {n : Nat} (h : (T.2.1 n).1 = 107) : cc cI cJ cZ cMic cSrc cSt cAI cAJ ad T n = .inl (cAJ, (T.2.1 n).2, .inr (.inr (.inr (.inr (fun i => (T.2.2.2.2 n i).map ad))))) := ccv_107 h
abbrev gC (cI cJ cZ cMic cSrc cSt cAI cAJ : ClassId) (D : va_G) (ad : Nat → Nat) (A : Nat → Prop) (H0 H : Heap) (locs : List Loc) (T : AT) : Prop := cG D ad T.1 A H0 H locs (cc cI cJ cZ cMic cSrc cSt cAI cAJ ad T)
theorem cc_up_i {cI cJ cZ cMic cSrc cSt cAI cAJ : ClassId} {ad : Nat → Nat} {T : AT} {n : Nat} {f : Nat → Int32} {e : va_E} (h : ccv cI cJ cZ cMic cSrc cSt cAI cAJ ad (T.2.1 n) f (T.2.2.2.1 n) (T.2.2.2.2 n) = e) : va_up (cc cI cJ cZ cMic cSrc cSt cAI cAJ ad T) n e = cc cI cJ cZ cMic cSrc cSt cAI cAJ ad (T.1, T.2.1, va_up T.2.2.1 n f, T.2.2.2) := by
  funext m
  by_cases q : m = n
  · subst q
    rw [va_up_self]
    unfold cc
    show e = _
    dsimp only
    rw [va_up_self]
    exact h.symm
  · rw [va_up_ne _ _ q]
    unfold cc
    dsimp only
    rw [va_up_ne _ _ q]
theorem gC_up_i {cI cJ cZ cMic cSrc cSt cAI cAJ : ClassId} {ad : Nat → Nat} {D : va_G} {A : Nat → Prop} {H0 H : Heap} {locs : List Loc} {T : AT} {n : Nat} {f : Nat → Int32} {e : va_E} (h : ccv cI cJ cZ cMic cSrc cSt cAI cAJ ad (T.2.1 n) f (T.2.2.2.1 n) (T.2.2.2.2 n) = e) (G : cG D ad T.1 A H0 H locs (va_up (cc cI cJ cZ cMic cSrc cSt cAI cAJ ad T) n e)) : gC cI cJ cZ cMic cSrc cSt cAI cAJ D ad A H0 H locs (T.1, T.2.1, va_up T.2.2.1 n f, T.2.2.2) := by
  rw [cc_up_i h] at G
  exact G
theorem cc_up_j {cI cJ cZ cMic cSrc cSt cAI cAJ : ClassId} {ad : Nat → Nat} {T : AT} {n : Nat} {f : Nat → Int64} {e : va_E} (h : ccv cI cJ cZ cMic cSrc cSt cAI cAJ ad (T.2.1 n) (T.2.2.1 n) f (T.2.2.2.2 n) = e) : va_up (cc cI cJ cZ cMic cSrc cSt cAI cAJ ad T) n e = cc cI cJ cZ cMic cSrc cSt cAI cAJ ad (T.1, T.2.1, T.2.2.1, va_up T.2.2.2.1 n f, T.2.2.2.2) := by
  funext m
  by_cases q : m = n
  · subst q
    rw [va_up_self]
    unfold cc
    show e = _
    dsimp only
    rw [va_up_self]
    exact h.symm
  · rw [va_up_ne _ _ q]
    unfold cc
    dsimp only
    rw [va_up_ne _ _ q]
theorem gC_up_j {cI cJ cZ cMic cSrc cSt cAI cAJ : ClassId} {ad : Nat → Nat} {D : va_G} {A : Nat → Prop} {H0 H : Heap} {locs : List Loc} {T : AT} {n : Nat} {f : Nat → Int64} {e : va_E} (h : ccv cI cJ cZ cMic cSrc cSt cAI cAJ ad (T.2.1 n) (T.2.2.1 n) f (T.2.2.2.2 n) = e) (G : cG D ad T.1 A H0 H locs (va_up (cc cI cJ cZ cMic cSrc cSt cAI cAJ ad T) n e)) : gC cI cJ cZ cMic cSrc cSt cAI cAJ D ad A H0 H locs (T.1, T.2.1, T.2.2.1, va_up T.2.2.2.1 n f, T.2.2.2.2) := by
  rw [cc_up_j h] at G
  exact G
theorem cc_up_r {cI cJ cZ cMic cSrc cSt cAI cAJ : ClassId} {ad : Nat → Nat} {T : AT} {n : Nat} {f : Nat → Option Nat} {e : va_E} (h : ccv cI cJ cZ cMic cSrc cSt cAI cAJ ad (T.2.1 n) (T.2.2.1 n) (T.2.2.2.1 n) f = e) : va_up (cc cI cJ cZ cMic cSrc cSt cAI cAJ ad T) n e = cc cI cJ cZ cMic cSrc cSt cAI cAJ ad (T.1, T.2.1, T.2.2.1, T.2.2.2.1, va_up T.2.2.2.2 n f) := by
  funext m
  by_cases q : m = n
  · subst q
    rw [va_up_self]
    unfold cc
    show e = _
    dsimp only
    rw [va_up_self]
    exact h.symm
  · rw [va_up_ne _ _ q]
    unfold cc
    dsimp only
    rw [va_up_ne _ _ q]
theorem gC_up_r {cI cJ cZ cMic cSrc cSt cAI cAJ : ClassId} {ad : Nat → Nat} {D : va_G} {A : Nat → Prop} {H0 H : Heap} {locs : List Loc} {T : AT} {n : Nat} {f : Nat → Option Nat} {e : va_E} (h : ccv cI cJ cZ cMic cSrc cSt cAI cAJ ad (T.2.1 n) (T.2.2.1 n) (T.2.2.2.1 n) f = e) (G : cG D ad T.1 A H0 H locs (va_up (cc cI cJ cZ cMic cSrc cSt cAI cAJ ad T) n e)) : gC cI cJ cZ cMic cSrc cSt cAI cAJ D ad A H0 H locs (T.1, T.2.1, T.2.2.1, T.2.2.2.1, va_up T.2.2.2.2 n f) := by
  rw [cc_up_r h] at G
  exact G
abbrev kB (cI cJ cZ cMic cSrc cSt cAI cAJ : ClassId) (D : va_G) (ad : Nat → Nat) (T : AT) (sz : Nat) : State → Prop := fun U => U.heap.size = sz ∧ va_P D vwCl (cW ad T.1 (cc cI cJ cZ cMic cSrc cSt cAI cAJ ad T)) U.heap ∧ va_K D vwCl (CT cI cJ cZ cMic cSrc cSt cAI cAJ) U ∧ va_D (fun _ => True) (cW ad T.1 (cc cI cJ cZ cMic cSrc cSt cAI cAJ ad T)) ∧ xT (va_A (cW ad T.1 (cc cI cJ cZ cMic cSrc cSt cAI cAJ ad T)) sz) U ∧ nX U
abbrev kAt (cI cJ cZ cMic cSrc cSt cAI cAJ : ClassId) (D : va_G) (ad : Nat → Nat) (A : Nat → Prop) (T : AT) (t : State) : Prop := va_P D vwCl (cW ad T.1 (cc cI cJ cZ cMic cSrc cSt cAI cAJ ad T)) t.heap ∧ va_K D vwCl (CT cI cJ cZ cMic cSrc cSt cAI cAJ) t ∧ va_D A (cW ad T.1 (cc cI cJ cZ cMic cSrc cSt cAI cAJ ad T))
abbrev kCi (l : Launch) (y : MethodName) (ws : List Cond) (fr lo : Nat) (cI cJ cZ cMic cSrc cSt cAI cAJ : ClassId) (D : va_G) (ad : Nat → Nat) (T : AT) (As : List Value) (post : Int32 → AT → Prop) : Prop := ∀ sz : Nat, Met l y ws { frames := fr, cells := 0, slots := 0, locals := lo } (va_Pc As (kB cI cJ cZ cMic cSrc cSt cAI cAJ D ad T sz)) (va_Qi post (kAt cI cJ cZ cMic cSrc cSt cAI cAJ D ad (va_A (cW ad T.1 (cc cI cJ cZ cMic cSrc cSt cAI cAJ ad T)) sz)) (va_A (cW ad T.1 (cc cI cJ cZ cMic cSrc cSt cAI cAJ ad T)) sz)) 0 0 (va_A (cW ad T.1 (cc cI cJ cZ cMic cSrc cSt cAI cAJ ad T)) sz)
abbrev kCl (l : Launch) (y : MethodName) (ws : List Cond) (fr lo : Nat) (cI cJ cZ cMic cSrc cSt cAI cAJ : ClassId) (D : va_G) (ad : Nat → Nat) (T : AT) (As : List Value) (post : Int64 → AT → Prop) : Prop := ∀ sz : Nat, Met l y ws { frames := fr, cells := 0, slots := 0, locals := lo } (va_Pc As (kB cI cJ cZ cMic cSrc cSt cAI cAJ D ad T sz)) (va_Ql post (kAt cI cJ cZ cMic cSrc cSt cAI cAJ D ad (va_A (cW ad T.1 (cc cI cJ cZ cMic cSrc cSt cAI cAJ ad T)) sz)) (va_A (cW ad T.1 (cc cI cJ cZ cMic cSrc cSt cAI cAJ ad T)) sz)) 0 0 (va_A (cW ad T.1 (cc cI cJ cZ cMic cSrc cSt cAI cAJ ad T)) sz)
abbrev kCf (l : Launch) (y : MethodName) (ws : List Cond) (fr lo : Nat) (cI cJ cZ cMic cSrc cSt cAI cAJ : ClassId) (D : va_G) (ad : Nat → Nat) (T : AT) (As : List Value) (post : UInt32 → AT → Prop) : Prop := ∀ sz : Nat, Met l y ws { frames := fr, cells := 0, slots := 0, locals := lo } (va_Pc As (kB cI cJ cZ cMic cSrc cSt cAI cAJ D ad T sz)) (va_Qf post (kAt cI cJ cZ cMic cSrc cSt cAI cAJ D ad (va_A (cW ad T.1 (cc cI cJ cZ cMic cSrc cSt cAI cAJ ad T)) sz)) (va_A (cW ad T.1 (cc cI cJ cZ cMic cSrc cSt cAI cAJ ad T)) sz)) 0 0 (va_A (cW ad T.1 (cc cI cJ cZ cMic cSrc cSt cAI cAJ ad T)) sz)
abbrev kCv (l : Launch) (y : MethodName) (ws : List Cond) (fr lo : Nat) (cI cJ cZ cMic cSrc cSt cAI cAJ : ClassId) (D : va_G) (ad : Nat → Nat) (T : AT) (As : List Value) (post : AT → Prop) : Prop := ∀ sz : Nat, Met l y ws { frames := fr, cells := 0, slots := 0, locals := lo } (va_Pc As (kB cI cJ cZ cMic cSrc cSt cAI cAJ D ad T sz)) (va_Qv post (kAt cI cJ cZ cMic cSrc cSt cAI cAJ D ad (va_A (cW ad T.1 (cc cI cJ cZ cMic cSrc cSt cAI cAJ ad T)) sz)) (va_A (cW ad T.1 (cc cI cJ cZ cMic cSrc cSt cAI cAJ ad T)) sz)) 0 0 (va_A (cW ad T.1 (cc cI cJ cZ cMic cSrc cSt cAI cAJ ad T)) sz)
theorem q_cvi {p : Program} {l : Launch} {e : Env} {R : Room} {s : State} {m : MethodId} {args : Array Value} {below : List Frame} {meth : Method} {c : Code} {H : Heap} {locs : List Loc} {cells slots : Nat} {Q : State → Prop} {cc0 : ByteArray} {pc : Nat} {ls : Array Slot} {rest : List Value} {D : va_G} {A : Nat → Prop} {Ts : List Cond} {own : String} {cI cJ cZ cMic cSrc cSt cAI cAJ : ClassId} {ad : Nat → Nat} {T : AT} {y : MethodName} {bytes : ByteArray} {maxL nL n index fr lo : Nat} {ret : Option FieldType} {ws : List Cond} {As : List Value} {C : String} {TT : u_T} {nf ci q : Nat} {fs : List Value} {post : Int32 → AT → Prop} (E : cE p c cc0 s m args Ts D own (CT cI cJ cZ cMic cSrc cSt cAI cAJ)) (G : gC cI cJ cZ cMic cSrc cSt cAI cAJ D ad A s.heap H locs T) (hA : ∀ q, s.heap.size ≤ q → A q) (hX : xT A s) (hN : nX s) (hml : c.maxLocals = nL) (hM : kCi l y ws fr lo cI cJ cZ cMic cSrc cSt cAI cAJ D ad T (.ref (ad q) :: As) post) (cw : CallW R s args own C index y bytes maxL ret ws { frames := fr, cells := 0, slots := 0, locals := lo } 0 0 n) (hq : q < T.1) (hSq : cc cI cJ cZ cMic cSrc cSt cAI cAJ ad T q = .inr (ci, fs)) (hc : vwCl[ci]? = some (C, TT, nf)) (hn : As.length = n) (hsz : ls.size = nL) {st : List Value} (hst : st = As.reverse ++ .ref (ad q) :: rest) (hW : 2 * (F0 m pc ls st).monitorRoom + (rest.map fun v => v.category).sum ≤ 8) (hdg : decode cc0 pc = .ok (.invokevirtual index, 3)) (hf : cells + 0 ≤ R.cells ∧ slots + 0 ≤ R.slots) (kk : ∀ (r : Int32) (T1 : AT) (H1 : Heap) (locs1 : List Loc), post r T1 → gC cI cJ cZ cMic cSrc cSt cAI cAJ D ad A s.heap H1 locs1 T1 → W p l e R s m args below meth c H1 locs1 (cells + 0) (slots + 0) Q (F0 m (pc + 3) ls (.int r :: rest))) : W p l e R s m args below meth c H locs cells slots Q (F0 m pc ls st) := by
  obtain ⟨hx, hb, hts, hown, hK⟩ := E
  obtain ⟨hP, hD, hS⟩ := G
  have hFc := va_free (wc := cW ad T.1 (cc cI cJ cZ cMic cSrc cSt cAI cAJ ad T)) hD hS hA (List.range T.1) (cW_all ad T.1 (cc cI cJ cZ cMic cSrc cSt cAI cAJ ad T))
  refine va_calli (va_runV (As := As) (rest := rest) ⟨hx, hb, hml, hown, hts⟩ (hM H.size) cw ⟨fun a U g mk q => by obtain ⟨q0, q1, qP, qK, qD, qX, qN⟩ := q; exact ⟨q0, q1, qP, va_K.moved (u := U) (U := U.calling g mk a) (Vm.Alike.refl U.vm) qK, qD, qX.blind, nX.moved U (U.calling g mk a) (State.WarmedH.refl U) qN⟩, va_recv hK hP (ci := ci) (q0 := q) hc (cW_e hq hSq), fun U hU hW => ⟨rfl, by rw [hU], by rw [hU]; exact hP, va_K.moved hW.alike hK, hD.weaken (fun _ _ _ _ => trivial), hX.go hW hU hS hFc, nX.moved s U hW hN⟩⟩ rfl hn hsz hst hW hdg hf) hS (fun q _ h => hFc q h) hFc (fun r u t H1 locs1 ht hvm hw hB hz1 hk1 hS => ?_)
  obtain ⟨hP1, hK1, hD1⟩ := hB
  rw [ht] at hP1
  obtain ⟨hP2, hD2⟩ := va_join (wr := []) (w1 := cW ad u.1 (cc cI cJ cZ cMic cSrc cSt cAI cAJ ad u)) hP hD (List.range T.1) [] (cW_all ad T.1 (cc cI cJ cZ cMic cSrc cSt cAI cAJ ad T)) rfl rfl (fun i hi => absurd hi List.not_mem_nil) hk1 hFc hP1 hD1
  exact kk r u H1 locs1 hw ⟨hP2, hD2, hS⟩
theorem q_csi {p : Program} {l : Launch} {e : Env} {R : Room} {s : State} {m : MethodId} {args : Array Value} {below : List Frame} {meth : Method} {c : Code} {H : Heap} {locs : List Loc} {cells slots : Nat} {Q : State → Prop} {cc0 : ByteArray} {pc : Nat} {ls : Array Slot} {rest : List Value} {D : va_G} {A : Nat → Prop} {Ts : List Cond} {own : String} {cI cJ cZ cMic cSrc cSt cAI cAJ : ClassId} {ad : Nat → Nat} {T : AT} {y : MethodName} {bytes : ByteArray} {maxL nL n index fr lo : Nat} {ret : Option FieldType} {ws : List Cond} {As : List Value} {post : Int32 → AT → Prop} (E : cE p c cc0 s m args Ts D own (CT cI cJ cZ cMic cSrc cSt cAI cAJ)) (G : gC cI cJ cZ cMic cSrc cSt cAI cAJ D ad A s.heap H locs T) (hA : ∀ q, s.heap.size ≤ q → A q) (hX : xT A s) (hN : nX s) (hml : c.maxLocals = nL) (hM : kCi l y ws fr lo cI cJ cZ cMic cSrc cSt cAI cAJ D ad T (As) post) (cw : CallB R s args own index y bytes maxL ret ws { frames := fr, cells := 0, slots := 0, locals := lo } 0 0 n ∧ (Cond.static y).before args s = true) (hn : As.length = n) (hsz : ls.size = nL) {st : List Value} (hst : st = As.reverse ++ rest) (hW : 2 * (F0 m pc ls st).monitorRoom + (rest.map fun v => v.category).sum ≤ 8) (hdg : decode cc0 pc = .ok (.invokestatic index, 3)) (hf : cells + 0 ≤ R.cells ∧ slots + 0 ≤ R.slots) (kk : ∀ (r : Int32) (T1 : AT) (H1 : Heap) (locs1 : List Loc), post r T1 → gC cI cJ cZ cMic cSrc cSt cAI cAJ D ad A s.heap H1 locs1 T1 → W p l e R s m args below meth c H1 locs1 (cells + 0) (slots + 0) Q (F0 m (pc + 3) ls (.int r :: rest))) : W p l e R s m args below meth c H locs cells slots Q (F0 m pc ls st) := by
  obtain ⟨hx, hb, hts, hown, hK⟩ := E
  obtain ⟨hP, hD, hS⟩ := G
  have hFc := va_free (wc := cW ad T.1 (cc cI cJ cZ cMic cSrc cSt cAI cAJ ad T)) hD hS hA (List.range T.1) (cW_all ad T.1 (cc cI cJ cZ cMic cSrc cSt cAI cAJ ad T))
  refine va_calli (va_runS (As := As) (rest := rest) ⟨hx, hb, hml, hown, hts⟩ (hM H.size) cw ⟨fun a U g mk q => by obtain ⟨q0, q1, qP, qK, qD, qX, qN⟩ := q; exact ⟨q0, q1, qP, va_K.moved (u := U) (U := U.calling g mk a) (Vm.Alike.refl U.vm) qK, qD, qX.blind, nX.moved U (U.calling g mk a) (State.WarmedH.refl U) qN⟩, fun U hU hW => ⟨rfl, by rw [hU], by rw [hU]; exact hP, va_K.moved hW.alike hK, hD.weaken (fun _ _ _ _ => trivial), hX.go hW hU hS hFc, nX.moved s U hW hN⟩⟩ rfl hn hsz hst hW hdg hf) hS (fun q _ h => hFc q h) hFc (fun r u t H1 locs1 ht hvm hw hB hz1 hk1 hS => ?_)
  obtain ⟨hP1, hK1, hD1⟩ := hB
  rw [ht] at hP1
  obtain ⟨hP2, hD2⟩ := va_join (wr := []) (w1 := cW ad u.1 (cc cI cJ cZ cMic cSrc cSt cAI cAJ ad u)) hP hD (List.range T.1) [] (cW_all ad T.1 (cc cI cJ cZ cMic cSrc cSt cAI cAJ ad T)) rfl rfl (fun i hi => absurd hi List.not_mem_nil) hk1 hFc hP1 hD1
  exact kk r u H1 locs1 hw ⟨hP2, hD2, hS⟩
theorem q_cvl {p : Program} {l : Launch} {e : Env} {R : Room} {s : State} {m : MethodId} {args : Array Value} {below : List Frame} {meth : Method} {c : Code} {H : Heap} {locs : List Loc} {cells slots : Nat} {Q : State → Prop} {cc0 : ByteArray} {pc : Nat} {ls : Array Slot} {rest : List Value} {D : va_G} {A : Nat → Prop} {Ts : List Cond} {own : String} {cI cJ cZ cMic cSrc cSt cAI cAJ : ClassId} {ad : Nat → Nat} {T : AT} {y : MethodName} {bytes : ByteArray} {maxL nL n index fr lo : Nat} {ret : Option FieldType} {ws : List Cond} {As : List Value} {C : String} {TT : u_T} {nf ci q : Nat} {fs : List Value} {post : Int64 → AT → Prop} (E : cE p c cc0 s m args Ts D own (CT cI cJ cZ cMic cSrc cSt cAI cAJ)) (G : gC cI cJ cZ cMic cSrc cSt cAI cAJ D ad A s.heap H locs T) (hA : ∀ q, s.heap.size ≤ q → A q) (hX : xT A s) (hN : nX s) (hml : c.maxLocals = nL) (hM : kCl l y ws fr lo cI cJ cZ cMic cSrc cSt cAI cAJ D ad T (.ref (ad q) :: As) post) (cw : CallW R s args own C index y bytes maxL ret ws { frames := fr, cells := 0, slots := 0, locals := lo } 0 0 n) (hq : q < T.1) (hSq : cc cI cJ cZ cMic cSrc cSt cAI cAJ ad T q = .inr (ci, fs)) (hc : vwCl[ci]? = some (C, TT, nf)) (hn : As.length = n) (hsz : ls.size = nL) {st : List Value} (hst : st = As.reverse ++ .ref (ad q) :: rest) (hW : 2 * (F0 m pc ls st).monitorRoom + (rest.map fun v => v.category).sum ≤ 8) (hdg : decode cc0 pc = .ok (.invokevirtual index, 3)) (hf : cells + 0 ≤ R.cells ∧ slots + 0 ≤ R.slots) (kk : ∀ (r : Int64) (T1 : AT) (H1 : Heap) (locs1 : List Loc), post r T1 → gC cI cJ cZ cMic cSrc cSt cAI cAJ D ad A s.heap H1 locs1 T1 → W p l e R s m args below meth c H1 locs1 (cells + 0) (slots + 0) Q (F0 m (pc + 3) ls (.long r :: rest))) : W p l e R s m args below meth c H locs cells slots Q (F0 m pc ls st) := by
  obtain ⟨hx, hb, hts, hown, hK⟩ := E
  obtain ⟨hP, hD, hS⟩ := G
  have hFc := va_free (wc := cW ad T.1 (cc cI cJ cZ cMic cSrc cSt cAI cAJ ad T)) hD hS hA (List.range T.1) (cW_all ad T.1 (cc cI cJ cZ cMic cSrc cSt cAI cAJ ad T))
  refine va_calll (va_runV (As := As) (rest := rest) ⟨hx, hb, hml, hown, hts⟩ (hM H.size) cw ⟨fun a U g mk q => by obtain ⟨q0, q1, qP, qK, qD, qX, qN⟩ := q; exact ⟨q0, q1, qP, va_K.moved (u := U) (U := U.calling g mk a) (Vm.Alike.refl U.vm) qK, qD, qX.blind, nX.moved U (U.calling g mk a) (State.WarmedH.refl U) qN⟩, va_recv hK hP (ci := ci) (q0 := q) hc (cW_e hq hSq), fun U hU hW => ⟨rfl, by rw [hU], by rw [hU]; exact hP, va_K.moved hW.alike hK, hD.weaken (fun _ _ _ _ => trivial), hX.go hW hU hS hFc, nX.moved s U hW hN⟩⟩ rfl hn hsz hst hW hdg hf) hS (fun q _ h => hFc q h) hFc (fun r u t H1 locs1 ht hvm hw hB hz1 hk1 hS => ?_)
  obtain ⟨hP1, hK1, hD1⟩ := hB
  rw [ht] at hP1
  obtain ⟨hP2, hD2⟩ := va_join (wr := []) (w1 := cW ad u.1 (cc cI cJ cZ cMic cSrc cSt cAI cAJ ad u)) hP hD (List.range T.1) [] (cW_all ad T.1 (cc cI cJ cZ cMic cSrc cSt cAI cAJ ad T)) rfl rfl (fun i hi => absurd hi List.not_mem_nil) hk1 hFc hP1 hD1
  exact kk r u H1 locs1 hw ⟨hP2, hD2, hS⟩
theorem q_cvf {p : Program} {l : Launch} {e : Env} {R : Room} {s : State} {m : MethodId} {args : Array Value} {below : List Frame} {meth : Method} {c : Code} {H : Heap} {locs : List Loc} {cells slots : Nat} {Q : State → Prop} {cc0 : ByteArray} {pc : Nat} {ls : Array Slot} {rest : List Value} {D : va_G} {A : Nat → Prop} {Ts : List Cond} {own : String} {cI cJ cZ cMic cSrc cSt cAI cAJ : ClassId} {ad : Nat → Nat} {T : AT} {y : MethodName} {bytes : ByteArray} {maxL nL n index fr lo : Nat} {ret : Option FieldType} {ws : List Cond} {As : List Value} {C : String} {TT : u_T} {nf ci q : Nat} {fs : List Value} {post : UInt32 → AT → Prop} (E : cE p c cc0 s m args Ts D own (CT cI cJ cZ cMic cSrc cSt cAI cAJ)) (G : gC cI cJ cZ cMic cSrc cSt cAI cAJ D ad A s.heap H locs T) (hA : ∀ q, s.heap.size ≤ q → A q) (hX : xT A s) (hN : nX s) (hml : c.maxLocals = nL) (hM : kCf l y ws fr lo cI cJ cZ cMic cSrc cSt cAI cAJ D ad T (.ref (ad q) :: As) post) (cw : CallW R s args own C index y bytes maxL ret ws { frames := fr, cells := 0, slots := 0, locals := lo } 0 0 n) (hq : q < T.1) (hSq : cc cI cJ cZ cMic cSrc cSt cAI cAJ ad T q = .inr (ci, fs)) (hc : vwCl[ci]? = some (C, TT, nf)) (hn : As.length = n) (hsz : ls.size = nL) {st : List Value} (hst : st = As.reverse ++ .ref (ad q) :: rest) (hW : 2 * (F0 m pc ls st).monitorRoom + (rest.map fun v => v.category).sum ≤ 8) (hdg : decode cc0 pc = .ok (.invokevirtual index, 3)) (hf : cells + 0 ≤ R.cells ∧ slots + 0 ≤ R.slots) (kk : ∀ (r : UInt32) (T1 : AT) (H1 : Heap) (locs1 : List Loc), post r T1 → gC cI cJ cZ cMic cSrc cSt cAI cAJ D ad A s.heap H1 locs1 T1 → W p l e R s m args below meth c H1 locs1 (cells + 0) (slots + 0) Q (F0 m (pc + 3) ls (.float r :: rest))) : W p l e R s m args below meth c H locs cells slots Q (F0 m pc ls st) := by
  obtain ⟨hx, hb, hts, hown, hK⟩ := E
  obtain ⟨hP, hD, hS⟩ := G
  have hFc := va_free (wc := cW ad T.1 (cc cI cJ cZ cMic cSrc cSt cAI cAJ ad T)) hD hS hA (List.range T.1) (cW_all ad T.1 (cc cI cJ cZ cMic cSrc cSt cAI cAJ ad T))
  refine va_callf (va_runV (As := As) (rest := rest) ⟨hx, hb, hml, hown, hts⟩ (hM H.size) cw ⟨fun a U g mk q => by obtain ⟨q0, q1, qP, qK, qD, qX, qN⟩ := q; exact ⟨q0, q1, qP, va_K.moved (u := U) (U := U.calling g mk a) (Vm.Alike.refl U.vm) qK, qD, qX.blind, nX.moved U (U.calling g mk a) (State.WarmedH.refl U) qN⟩, va_recv hK hP (ci := ci) (q0 := q) hc (cW_e hq hSq), fun U hU hW => ⟨rfl, by rw [hU], by rw [hU]; exact hP, va_K.moved hW.alike hK, hD.weaken (fun _ _ _ _ => trivial), hX.go hW hU hS hFc, nX.moved s U hW hN⟩⟩ rfl hn hsz hst hW hdg hf) hS (fun q _ h => hFc q h) hFc (fun r u t H1 locs1 ht hvm hw hB hz1 hk1 hS => ?_)
  obtain ⟨hP1, hK1, hD1⟩ := hB
  rw [ht] at hP1
  obtain ⟨hP2, hD2⟩ := va_join (wr := []) (w1 := cW ad u.1 (cc cI cJ cZ cMic cSrc cSt cAI cAJ ad u)) hP hD (List.range T.1) [] (cW_all ad T.1 (cc cI cJ cZ cMic cSrc cSt cAI cAJ ad T)) rfl rfl (fun i hi => absurd hi List.not_mem_nil) hk1 hFc hP1 hD1
  exact kk r u H1 locs1 hw ⟨hP2, hD2, hS⟩
theorem q_cvv {p : Program} {l : Launch} {e : Env} {R : Room} {s : State} {m : MethodId} {args : Array Value} {below : List Frame} {meth : Method} {c : Code} {H : Heap} {locs : List Loc} {cells slots : Nat} {Q : State → Prop} {cc0 : ByteArray} {pc : Nat} {ls : Array Slot} {rest : List Value} {D : va_G} {A : Nat → Prop} {Ts : List Cond} {own : String} {cI cJ cZ cMic cSrc cSt cAI cAJ : ClassId} {ad : Nat → Nat} {T : AT} {y : MethodName} {bytes : ByteArray} {maxL nL n index fr lo : Nat} {ret : Option FieldType} {ws : List Cond} {As : List Value} {C : String} {TT : u_T} {nf ci q : Nat} {fs : List Value} {post : AT → Prop} (E : cE p c cc0 s m args Ts D own (CT cI cJ cZ cMic cSrc cSt cAI cAJ)) (G : gC cI cJ cZ cMic cSrc cSt cAI cAJ D ad A s.heap H locs T) (hA : ∀ q, s.heap.size ≤ q → A q) (hX : xT A s) (hN : nX s) (hml : c.maxLocals = nL) (hM : kCv l y ws fr lo cI cJ cZ cMic cSrc cSt cAI cAJ D ad T (.ref (ad q) :: As) post) (cw : CallW R s args own C index y bytes maxL ret ws { frames := fr, cells := 0, slots := 0, locals := lo } 0 0 n) (hq : q < T.1) (hSq : cc cI cJ cZ cMic cSrc cSt cAI cAJ ad T q = .inr (ci, fs)) (hc : vwCl[ci]? = some (C, TT, nf)) (hn : As.length = n) (hsz : ls.size = nL) {st : List Value} (hst : st = As.reverse ++ .ref (ad q) :: rest) (hW : 2 * (F0 m pc ls st).monitorRoom + (rest.map fun v => v.category).sum ≤ 8) (hdg : decode cc0 pc = .ok (.invokevirtual index, 3)) (hf : cells + 0 ≤ R.cells ∧ slots + 0 ≤ R.slots) (kk : ∀ (T1 : AT) (H1 : Heap) (locs1 : List Loc), post T1 → gC cI cJ cZ cMic cSrc cSt cAI cAJ D ad A s.heap H1 locs1 T1 → W p l e R s m args below meth c H1 locs1 (cells + 0) (slots + 0) Q (F0 m (pc + 3) ls rest)) : W p l e R s m args below meth c H locs cells slots Q (F0 m pc ls st) := by
  obtain ⟨hx, hb, hts, hown, hK⟩ := E
  obtain ⟨hP, hD, hS⟩ := G
  have hFc := va_free (wc := cW ad T.1 (cc cI cJ cZ cMic cSrc cSt cAI cAJ ad T)) hD hS hA (List.range T.1) (cW_all ad T.1 (cc cI cJ cZ cMic cSrc cSt cAI cAJ ad T))
  refine va_callv (va_runV (As := As) (rest := rest) ⟨hx, hb, hml, hown, hts⟩ (hM H.size) cw ⟨fun a U g mk q => by obtain ⟨q0, q1, qP, qK, qD, qX, qN⟩ := q; exact ⟨q0, q1, qP, va_K.moved (u := U) (U := U.calling g mk a) (Vm.Alike.refl U.vm) qK, qD, qX.blind, nX.moved U (U.calling g mk a) (State.WarmedH.refl U) qN⟩, va_recv hK hP (ci := ci) (q0 := q) hc (cW_e hq hSq), fun U hU hW => ⟨rfl, by rw [hU], by rw [hU]; exact hP, va_K.moved hW.alike hK, hD.weaken (fun _ _ _ _ => trivial), hX.go hW hU hS hFc, nX.moved s U hW hN⟩⟩ rfl hn hsz hst hW hdg hf) hS (fun q _ h => hFc q h) hFc (fun u t H1 locs1 ht hvm hw hB hz1 hk1 hS => ?_)
  obtain ⟨hP1, hK1, hD1⟩ := hB
  rw [ht] at hP1
  obtain ⟨hP2, hD2⟩ := va_join (wr := []) (w1 := cW ad u.1 (cc cI cJ cZ cMic cSrc cSt cAI cAJ ad u)) hP hD (List.range T.1) [] (cW_all ad T.1 (cc cI cJ cZ cMic cSrc cSt cAI cAJ ad T)) rfl rfl (fun i hi => absurd hi List.not_mem_nil) hk1 hFc hP1 hD1
  exact kk u H1 locs1 hw ⟨hP2, hD2, hS⟩
theorem q_csv {p : Program} {l : Launch} {e : Env} {R : Room} {s : State} {m : MethodId} {args : Array Value} {below : List Frame} {meth : Method} {c : Code} {H : Heap} {locs : List Loc} {cells slots : Nat} {Q : State → Prop} {cc0 : ByteArray} {pc : Nat} {ls : Array Slot} {rest : List Value} {D : va_G} {A : Nat → Prop} {Ts : List Cond} {own : String} {cI cJ cZ cMic cSrc cSt cAI cAJ : ClassId} {ad : Nat → Nat} {T : AT} {y : MethodName} {bytes : ByteArray} {maxL nL n index fr lo : Nat} {ret : Option FieldType} {ws : List Cond} {As : List Value} {post : AT → Prop} (E : cE p c cc0 s m args Ts D own (CT cI cJ cZ cMic cSrc cSt cAI cAJ)) (G : gC cI cJ cZ cMic cSrc cSt cAI cAJ D ad A s.heap H locs T) (hA : ∀ q, s.heap.size ≤ q → A q) (hX : xT A s) (hN : nX s) (hml : c.maxLocals = nL) (hM : kCv l y ws fr lo cI cJ cZ cMic cSrc cSt cAI cAJ D ad T (As) post) (cw : CallB R s args own index y bytes maxL ret ws { frames := fr, cells := 0, slots := 0, locals := lo } 0 0 n ∧ (Cond.static y).before args s = true) (hn : As.length = n) (hsz : ls.size = nL) {st : List Value} (hst : st = As.reverse ++ rest) (hW : 2 * (F0 m pc ls st).monitorRoom + (rest.map fun v => v.category).sum ≤ 8) (hdg : decode cc0 pc = .ok (.invokestatic index, 3)) (hf : cells + 0 ≤ R.cells ∧ slots + 0 ≤ R.slots) (kk : ∀ (T1 : AT) (H1 : Heap) (locs1 : List Loc), post T1 → gC cI cJ cZ cMic cSrc cSt cAI cAJ D ad A s.heap H1 locs1 T1 → W p l e R s m args below meth c H1 locs1 (cells + 0) (slots + 0) Q (F0 m (pc + 3) ls rest)) : W p l e R s m args below meth c H locs cells slots Q (F0 m pc ls st) := by
  obtain ⟨hx, hb, hts, hown, hK⟩ := E
  obtain ⟨hP, hD, hS⟩ := G
  have hFc := va_free (wc := cW ad T.1 (cc cI cJ cZ cMic cSrc cSt cAI cAJ ad T)) hD hS hA (List.range T.1) (cW_all ad T.1 (cc cI cJ cZ cMic cSrc cSt cAI cAJ ad T))
  refine va_callv (va_runS (As := As) (rest := rest) ⟨hx, hb, hml, hown, hts⟩ (hM H.size) cw ⟨fun a U g mk q => by obtain ⟨q0, q1, qP, qK, qD, qX, qN⟩ := q; exact ⟨q0, q1, qP, va_K.moved (u := U) (U := U.calling g mk a) (Vm.Alike.refl U.vm) qK, qD, qX.blind, nX.moved U (U.calling g mk a) (State.WarmedH.refl U) qN⟩, fun U hU hW => ⟨rfl, by rw [hU], by rw [hU]; exact hP, va_K.moved hW.alike hK, hD.weaken (fun _ _ _ _ => trivial), hX.go hW hU hS hFc, nX.moved s U hW hN⟩⟩ rfl hn hsz hst hW hdg hf) hS (fun q _ h => hFc q h) hFc (fun u t H1 locs1 ht hvm hw hB hz1 hk1 hS => ?_)
  obtain ⟨hP1, hK1, hD1⟩ := hB
  rw [ht] at hP1
  obtain ⟨hP2, hD2⟩ := va_join (wr := []) (w1 := cW ad u.1 (cc cI cJ cZ cMic cSrc cSt cAI cAJ ad u)) hP hD (List.range T.1) [] (cW_all ad T.1 (cc cI cJ cZ cMic cSrc cSt cAI cAJ ad T)) rfl rfl (fun i hi => absurd hi List.not_mem_nil) hk1 hFc hP1 hD1
  exact kk u H1 locs1 hw ⟨hP2, hD2, hS⟩
/-- Met.ofW where the class is one whose rows the machine has of its own (java/lang/Math), the method not -/
theorem met_ofF {l : Launch} {y : MethodName} {ws ws' : List Cond} {rm : Room} {Pc : Array Value → State → Prop} {Qc : Array Value → State → Outcome → State → Prop} {mc ms : Nat} {free : Addr → Prop} {cc : ByteArray} {maxL : Nat} {ret : Option FieldType} (hy : plainFor y = true) (hw : ws = Cond.code y cc maxL ret :: ws') (body : ∀ p e s m args below meth c s₁, BodyLoose p l y (headSpec ws rm) cc maxL ret e s m args below meth c s₁ → c.maxLocals = maxL → Pc args s → W p l e (headSpec ws rm).room s m args below meth c s.heap [] 0 0 (MQ below Qc args s mc ms free) (entryFrame m args maxL)) : Met l y ws rm Pc Qc mc ms free := by
  refine MetFree.of_bodySF (code := cc) (maxLocals := maxL) (ret := ret) hy (fun args s m h hn => ?_) (fun p e s m args below meth c s₁ B hml hP _ => ?_)
  · obtain ⟨meth, c, h1, h2, h3, h4, h5, h6, -, -⟩ := Cond.code_spec hn (atoms_spec (ws := ws) h _ (by rw [hw]; exact List.mem_cons_self))
    exact ⟨meth, c, h1, h2, h3, h4, h5, h6⟩
  · have hh0 : s₁.heap = s.heap := by rw [B.state]; rfl
    obtain ⟨t, a1, o, b1, b2, b3⟩ := body p e s m args below meth c s₁ B hml hP s₁ hh0 (Stand.of_body B)
    exact ⟨t, o, a1, b1, b2, ⟨b3.1, b3.2⟩⟩
/-- no cell is made, none gets another kind, no reference is written -/
def SP (T T1 : AT) : Prop := T1.1 = T.1 ∧ T1.2.1 = T.2.1 ∧ T1.2.2.2.2 = T.2.2.2.2
theorem SP.rf (T : AT) : SP T T := ⟨rfl, rfl, rfl⟩
theorem SP.tr {T T1 T2 : AT} (h : SP T T1) (k : SP T1 T2) : SP T T2 := ⟨k.1.trans h.1, k.2.1.trans h.2.1, k.2.2.trans h.2.2⟩
theorem sp_uI {T : AT} {n k : Nat} {v : Int32} : SP T (uI T n k v) := ⟨rfl, rfl, rfl⟩
theorem sp_uJ {T : AT} {n k : Nat} {v : Int64} : SP T (uJ T n k v) := ⟨rfl, rfl, rfl⟩
theorem oif_or {β : Type} {c : Prop} [Decidable c] {x z : Option β} {y : β} (h : (if c then x else z) = some y) : (c ∧ x = some y) ∨ (¬ c ∧ z = some y) := by
  by_cases hc : c
  · rw [if_pos hc] at h
    exact .inl ⟨hc, h⟩
  · rw [if_neg hc] at h
    exact .inr ⟨hc, h⟩
def uC (T : AT) (a b k : Nat) : AT := (T.1, T.2.1, T.2.2.1, va_up T.2.2.2.1 b (va_cpy (T.2.2.2.1 a) (T.2.2.2.1 b) 0 0 k), T.2.2.2.2)
theorem sp_uC {T : AT} {a b k : Nat} : SP T (uC T a b k) := ⟨rfl, rfl, rfl⟩
theorem q_copyl {p : Program} {l : Launch} {e : Env} {R : Room} {s : State} {m : MethodId} {args : Array Value} {below : List Frame} {meth : Method} {c : Code} {H : Heap} {locs : List Loc} {cells slots : Nat} {Q : State → Prop} {cc0 : ByteArray} {pc : Nat} {ls : Array Slot} {rest : List Value} {D : va_G} {A : Nat → Prop} {Ts : List Cond} {own : String} {cI cJ cZ cMic cSrc cSt cAI cAJ : ClassId} {ad : Nat → Nat} {T : AT} (E : cE p c cc0 s m args Ts D own (CT cI cJ cZ cMic cSrc cSt cAI cAJ)) (G : gC cI cJ cZ cMic cSrc cSt cAI cAJ D ad A s.heap H locs T) (a b : Nat) {n : Int32} {index : Nat} (ha : a < T.1) (hb2 : b < T.1) (ka : (T.2.1 a).1 = 101) (kb : (T.2.1 b).1 = 101) (hn : 0 ≤ n) (h4 : n.toNatClampNeg ≤ (T.2.1 a).2) (h5 : n.toNatClampNeg ≤ (T.2.1 b).2) (hml : c.maxLocals = ls.size) (hlink : (Cond.methodLink own index arraycopyName).before args s = true) (hnat : (Cond.native arraycopyName).before args s = true) (hstat : (Cond.static arraycopyName).before args s = true) (hini : (Cond.initialized "java/lang/System").before args s = true) (hframes : 1 ≤ R.frames) (hlocals : (rest.map fun v => v.category).sum + (nativeFrameWords "java/lang/System" "arraycopy" 5 + 11) ≤ R.locals) (hdg : decode cc0 pc = .ok (.invokestatic index, 3)) (kk : ∀ (H1 : Heap) (locs1 : List Loc), gC cI cJ cZ cMic cSrc cSt cAI cAJ D ad A s.heap H1 locs1 (uC T a b n.toNatClampNeg) → W p l e R s m args below meth c H1 locs1 cells slots Q (F0 m (pc + 3) ls rest)) : W p l e R s m args below meth c H locs cells slots Q (F0 m pc ls (.int n :: .int 0 :: .ref (ad b) :: .int 0 :: .ref (ad a) :: rest)) := by
  refine va_copyl E.1 E.2.1 hml E.2.2.2.1 hlink hnat hstat hini E.2.2.2.2 G.1 G.2.1 G.2.2 a b 1 1 (cW_e ha (cc_a101 ka)) (cW_e hb2 (cc_a101 kb)) rfl rfl rfl (by decide) (by decide) (Int32.not_lt.mpr hn) (by show 0 + _ ≤ _; omega) (by show 0 + _ ≤ _; omega) (fun _ _ => rfl) hframes hlocals hdg (fun H1 locs1 h1 h2 h3 => kk H1 locs1 ?_)
  have e := cW_set (ad := ad) (S := cc cI cJ cZ cMic cSrc cSt cAI cAJ ad T) (e := (.inl (cJ, (T.2.1 b).2, .inr (.inl (va_cpy (T.2.2.2.1 a) (T.2.2.2.1 b) 0 0 n.toNatClampNeg))) : va_E)) hb2
  rw [show (0 : Int32).toNatClampNeg = 0 from by decide] at h1 h2
  rw [e] at h1 h2
  exact gC_up_j (f := va_cpy (T.2.2.2.1 a) (T.2.2.2.1 b) 0 0 n.toNatClampNeg) (ccv_101 kb) ⟨h1, h2, h3⟩
def RC (T : AT) : Prop := ∀ n k q, T.2.2.2.2 n k = some q → q < T.1
def newJ (T : AT) (K : Nat) : AT := (T.1 + 1, va_up T.2.1 T.1 (101, K), T.2.2.1, va_up T.2.2.2.1 T.1 (fun _ => 0), T.2.2.2.2)
def sgA (f : Nat → Nat × Nat) : Nat → Nat
  | 0 => 0
  | n + 1 => sgA f n + (f n).2
def sg (T : AT) : Nat := sgA T.2.1 T.1
def GL (T T1 : AT) : Prop := T.1 ≤ T1.1 ∧ (∀ n, n < T.1 → T1.2.1 n = T.2.1 n) ∧ (RC T → RC T1)
theorem GL.rf (T : AT) : GL T T := ⟨Nat.le_refl _, fun _ _ => rfl, fun h => h⟩
theorem GL.tr {T T1 T2 : AT} (h : GL T T1) (k : GL T1 T2) : GL T T2 := ⟨Nat.le_trans h.1 k.1, fun n hn => (k.2.1 n (Nat.lt_of_lt_of_le hn h.1)).trans (h.2.1 n hn), fun q => k.2.2 (h.2.2 q)⟩
theorem gl_sp {T T1 : AT} (h : SP T T1) : GL T T1 := ⟨Nat.le_of_eq h.1.symm, fun n _ => congrFun h.2.1 n, fun q n k x hx => by rw [h.1]; exact q n k x (by rw [← h.2.2]; exact hx)⟩
theorem gl_uR {T : AT} {n k x : Nat} (hx : x < T.1) : GL T (uR T n k x) := by
  refine ⟨Nat.le_refl _, fun _ _ => rfl, fun q m j y hy => ?_⟩
  show y < T.1
  have hy : va_up T.2.2.2.2 n (va_up (T.2.2.2.2 n) k (some x)) m j = some y := hy
  by_cases e : m = n
  · subst e
    rw [va_up_self] at hy
    by_cases e2 : j = k
    · subst e2
      rw [va_up_self] at hy
      cases hy
      exact hx
    · rw [va_up_ne _ _ e2] at hy
      exact q m j y hy
  · rw [va_up_ne _ _ e] at hy
    exact q m j y hy
theorem gl_newJ {T : AT} {K : Nat} : GL T (newJ T K) := ⟨Nat.le_succ _, fun n hn => va_up_ne T.2.1 _ (Nat.ne_of_lt hn), fun q n k x hx => Nat.lt_succ_of_lt (q n k x hx)⟩
theorem sgA_congr {f g : Nat → Nat × Nat} : ∀ N, (∀ n, n < N → f n = g n) → sgA f N = sgA g N
  | 0, _ => rfl
  | N + 1, h => by
    show sgA f N + (f N).2 = sgA g N + (g N).2
    rw [sgA_congr N (fun n hn => h n (Nat.lt_succ_of_lt hn)), h N (Nat.lt_succ_self N)]
theorem sgA_mono {f : Nat → Nat × Nat} {a b : Nat} (h : a ≤ b) : sgA f a ≤ sgA f b := by
  induction h with
  | refl => exact Nat.le_refl _
  | step _ ih => exact Nat.le_trans ih (Nat.le_add_right _ _)
theorem sg_le {T T1 : AT} (h : GL T T1) : sg T ≤ sg T1 := by
  unfold sg
  rw [← sgA_congr T.1 h.2.1]
  exact sgA_mono h.1
theorem sg_newJ {T : AT} {K : Nat} : sg (newJ T K) = sg T + K := by
  show sgA (va_up T.2.1 T.1 (101, K)) T.1 + (va_up T.2.1 T.1 (101, K) T.1).2 = sg T + K
  rw [va_up_self, sgA_congr (g := T.2.1) T.1 (fun n hn => va_up_ne T.2.1 _ (Nat.ne_of_lt hn))]
  rfl
def CPR (Tb T : AT) : Prop := T.1 = Tb.1 ∧ T.2.1 = Tb.2.1 ∧ RC T
theorem cpr0 {T : AT} (h : RC T) : CPR T T := ⟨rfl, rfl, h⟩
theorem cpr_sp {Tb T T2 : AT} (h : CPR Tb T) (k : SP T T2) : CPR Tb T2 := ⟨k.1.trans h.1, k.2.1.trans h.2.1, (gl_sp k).2.2 h.2.2⟩
theorem cpr_uR {Tb T : AT} {n k x : Nat} (h : CPR Tb T) (hx : x < T.1) : CPR Tb (uR T n k x) := ⟨h.1, h.2.1, (gl_uR hx).2.2 h.2.2⟩
theorem sg_cpr {Tb T : AT} (h : CPR Tb T) : sg T = sg Tb := by
  unfold sg
  rw [h.1, h.2.1]
theorem gl_cpr {T0 Tb T : AT} (h : GL T0 Tb) (k : CPR Tb T) : GL T0 T := ⟨by rw [k.1]; exact h.1, fun n hn => by rw [k.2.1]; exact h.2.1 n hn, fun _ => k.2.2⟩
theorem cs_ok {T0 T T1 : AT} (_ : GL T0 T) (k : GL T T1) : (T.1 - T0.1) + 0 ≤ T1.1 - T0.1 ∧ (sg T - sg T0) + 0 ≤ sg T1 - sg T0 := ⟨Nat.sub_le_sub_right k.1 _, Nat.sub_le_sub_right (sg_le k) _⟩
theorem cs_okx {T0 T T1 : AT} (h : GL T0 T) (k : GL T T1) : (T.1 - T0.1) + 0 ≤ T1.1 - T0.1 + 1 ∧ (sg T - sg T0) + 0 ≤ sg T1 - sg T0 + 6 := ⟨Nat.le_trans (cs_ok h k).1 (Nat.le_add_right _ _), Nat.le_trans (cs_ok h k).2 (Nat.le_add_right _ _)⟩
theorem cs_okx1 {T0 T T1 : AT} (h : GL T0 T) (k : GL T T1) : (T.1 - T0.1) + 1 ≤ T1.1 - T0.1 + 1 ∧ (sg T - sg T0) + 6 ≤ sg T1 - sg T0 + 6 := ⟨Nat.add_le_add_right (cs_ok h k).1 _, Nat.add_le_add_right (cs_ok h k).2 _⟩
theorem cs_new {T0 Tb T T1 T2 : AT} {K : Nat} (h : GL T0 Tb) (c : CPR Tb T) (k : GL T2 T1) (e1 : T2.1 = T.1 + 1) (e2 : sg T2 = sg T + K) : (Tb.1 - T0.1) + 1 ≤ T1.1 - T0.1 ∧ (sg Tb - sg T0) + K ≤ sg T1 - sg T0 := by
  have a := h.1
  have b := k.1
  have c1 := sg_le h
  have d := sg_le k
  have x := c.1
  have y := sg_cpr c
  exact ⟨by omega, by omega⟩
theorem cs_e1 {T0 Tb T T2 : AT} (h : GL T0 Tb) (c : CPR Tb T) (e1 : T2.1 = T.1 + 1) : (Tb.1 - T0.1) + 1 = T2.1 - T0.1 := by
  have a := h.1
  have x := c.1
  omega
theorem cs_e2 {T0 Tb T T2 : AT} {K : Nat} (h : GL T0 Tb) (c : CPR Tb T) (e2 : sg T2 = sg T + K) : (sg Tb - sg T0) + K = sg T2 - sg T0 := by
  have a := sg_le h
  have x := sg_cpr c
  omega
theorem cs_f1 {T0 Tb T T2 : AT} (h : GL T0 Tb) (c : CPR Tb T) (g : GL T T2) : (Tb.1 - T0.1) + (T2.1 - T.1) = T2.1 - T0.1 := by
  have a := h.1
  have x := c.1
  have y := g.1
  omega
theorem cs_f2 {T0 Tb T T2 : AT} (h : GL T0 Tb) (c : CPR Tb T) (g : GL T T2) : (sg Tb - sg T0) + (sg T2 - sg T) = sg T2 - sg T0 := by
  have a := sg_le h
  have x := sg_cpr c
  have y := sg_le g
  omega
theorem cs_av {T0 Tb T T1 T2 : AT} (h : GL T0 Tb) (c : CPR Tb T) (g : GL T T2) (k : GL T2 T1) : (Tb.1 - T0.1) + (T2.1 - T.1) ≤ T1.1 - T0.1 ∧ (sg Tb - sg T0) + (sg T2 - sg T) ≤ sg T1 - sg T0 := by
  rw [cs_f1 h c g, cs_f2 h c g]
  exact ⟨Nat.sub_le_sub_right k.1 _, Nat.sub_le_sub_right (sg_le k) _⟩
theorem cs_avx {T0 Tb T T1 T2 : AT} (h : GL T0 Tb) (c : CPR Tb T) (g : GL T T2) (k : GL T2 T1) : (Tb.1 - T0.1) + (T2.1 - T.1) ≤ T1.1 - T0.1 + 1 ∧ (sg Tb - sg T0) + (sg T2 - sg T) ≤ sg T1 - sg T0 + 6 := ⟨Nat.le_trans (cs_av h c g k).1 (Nat.le_add_right _ _), Nat.le_trans (cs_av h c g k).2 (Nat.le_add_right _ _)⟩
theorem w_cast {p : Program} {l : Launch} {e : Env} {R : Room} {s : State} {m : MethodId} {args : Array Value} {below : List Frame} {meth : Method} {c : Code} {H : Heap} {locs : List Loc} {Q : State → Prop} {g : JFrame} {c1 c2 s1 s2 : Nat} (hc : c1 = c2) (hs : s1 = s2) (k : W p l e R s m args below meth c H locs c2 s2 Q g) : W p l e R s m args below meth c H locs c1 s1 Q g := by
  subst hc
  subst hs
  exact k
theorem w_st {p : Program} {l : Launch} {e : Env} {R : Room} {s : State} {m : MethodId} {args : Array Value} {below : List Frame} {meth : Method} {c : Code} {H : Heap} {locs : List Loc} {cells slots : Nat} {Q : State → Prop} {pc : Nat} {ls : Array Slot} {st1 st2 : List Value} (h : st1 = st2) (k : W p l e R s m args below meth c H locs cells slots Q (F0 m pc ls st2)) : W p l e R s m args below meth c H locs cells slots Q (F0 m pc ls st1) := by
  subst h
  exact k
theorem map_up {ad : Nat → Nat} {f : Nat → Option Nat} {k x : Nat} : (fun i => (va_up f k (some x) i).map ad) = va_up (fun i => (f i).map ad) k (some (ad x)) := by
  funext i
  by_cases q : i = k
  · subst q
    rw [va_up_self, va_up_self]
    rfl
  · rw [va_up_ne _ _ q, va_up_ne _ _ q]
theorem ccv_ad {cI cJ cZ cMic cSrc cSt cAI cAJ : ClassId} {ad : Nat → Nat} {ad2 : Nat → Nat} {sh : Nat × Nat} {vi : Nat → Int32} {vj : Nat → Int64} {vr : Nat → Option Nat} (h : ∀ k q, vr k = some q → ad2 q = ad q) : ccv cI cJ cZ cMic cSrc cSt cAI cAJ ad2 sh vi vj vr = ccv cI cJ cZ cMic cSrc cSt cAI cAJ ad sh vi vj vr := by
  have e : (fun k => (vr k).map ad2) = fun k => (vr k).map ad := by
    funext k
    cases hk : vr k with
    | none => rfl
    | some q => exact congrArg some (h k q hk)
  have e1 : ∀ k, (vr k).map ad2 = (vr k).map ad := fun k => congrFun e k
  unfold ccv
  simp only [e1]
theorem gC_new {cI cJ cZ cMic cSrc cSt cAI cAJ : ClassId} {ad : Nat → Nat} {D : va_G} {A : Nat → Prop} {H0 H : Heap} {locs : List Loc} {T : AT} {q K : Nat} (hrc : RC T) (G : cG D (cat T.1 ad (fun _ => q)) (T.1 + 1) A H0 H locs (cat T.1 (cc cI cJ cZ cMic cSrc cSt cAI cAJ ad T) (fun _ => .inl (cJ, K, .inr (.inl (fun _ => 0)))))) : gC cI cJ cZ cMic cSrc cSt cAI cAJ D (cat T.1 ad (fun _ => q)) A H0 H locs (newJ T K) := by
  have e : cW (cat T.1 ad (fun _ => q)) (T.1 + 1) (cat T.1 (cc cI cJ cZ cMic cSrc cSt cAI cAJ ad T) (fun _ => .inl (cJ, K, .inr (.inl (fun _ => 0))))) = cW (cat T.1 ad (fun _ => q)) (T.1 + 1) (cc cI cJ cZ cMic cSrc cSt cAI cAJ (cat T.1 ad (fun _ => q)) (newJ T K)) := by
    refine cW_congr (fun n hn => ?_)
    unfold cc
    show _ = ccv cI cJ cZ cMic cSrc cSt cAI cAJ (cat T.1 ad (fun _ => q)) (va_up T.2.1 T.1 (101, K) n) (T.2.2.1 n) (va_up T.2.2.2.1 T.1 (fun _ => 0) n) (T.2.2.2.2 n)
    rw [ccv_ad (ad2 := cat T.1 ad (fun _ => q)) (ad := ad) (fun k x hx => cat_lo (hrc n k x hx))]
    rcases Nat.lt_or_eq_of_le (Nat.le_of_lt_succ hn) with h1 | rfl
    · rw [cat_lo h1]
      show ccv cI cJ cZ cMic cSrc cSt cAI cAJ ad (T.2.1 n) (T.2.2.1 n) (T.2.2.2.1 n) (T.2.2.2.2 n) = ccv cI cJ cZ cMic cSrc cSt cAI cAJ ad (va_up T.2.1 T.1 (101, K) n) (T.2.2.1 n) (va_up T.2.2.2.1 T.1 (fun _ => 0) n) (T.2.2.2.2 n)
      rw [va_up_ne _ _ (Nat.ne_of_lt h1), va_up_ne _ _ (Nat.ne_of_lt h1)]
    · rw [cat_hi (Nat.le_refl _)]
      show _ = ccv cI cJ cZ cMic cSrc cSt cAI cAJ ad (va_up T.2.1 T.1 (101, K) T.1) (T.2.2.1 T.1) (va_up T.2.2.2.1 T.1 (fun _ => 0) T.1) (T.2.2.2.2 T.1)
      rw [va_up_self, va_up_self, ccv_101 rfl]
  obtain ⟨h1, h2, h3⟩ := G
  rw [e] at h1 h2
  exact ⟨h1, h2, h3⟩
def exn (e : Nat) : String := match e with
  | 0 => xISE
  | 1 => xIOB
  | _ => xIAE
def othr {α β : Type} (x : Option (Nat × α × AT)) (z : β) (f : α → AT → Option (Nat × β × AT)) : Option (Nat × β × AT) := match x with
  | none => none
  | some (0, r, T) => f r T
  | some (k + 1, _, T) => some (k + 1, z, T)
theorem osome3 {α β γ : Type} {a b : α} {x y : β} {u v : γ} (h : some (a, x, u) = some (b, y, v)) : a = b ∧ x = y ∧ u = v := ⟨congrArg Prod.fst (Option.some.inj h), congrArg (fun q => q.2.1) (Option.some.inj h), congrArg (fun q => q.2.2) (Option.some.inj h)⟩
theorem othr_n {α β : Type} {x : Option (Nat × α × AT)} {z : β} {f : α → AT → Option (Nat × β × AT)} {r1 : β} {T1 : AT} (h : othr x z f = some (0, r1, T1)) : ∃ r T, x = some (0, r, T) ∧ f r T = some (0, r1, T1) := by
  match x, h with
  | none, h => cases h
  | some (0, r, T), h => exact ⟨r, T, rfl, h⟩
  | some (k + 1, r, T), h => exact (Nat.succ_ne_zero _ (congrArg Prod.fst (Option.some.inj h))).elim
theorem othr_s {α β : Type} {x : Option (Nat × α × AT)} {z : β} {f : α → AT → Option (Nat × β × AT)} {e1 : Nat} {r1 : β} {T1 : AT} (h : othr x z f = some (e1, r1, T1)) : (∃ k r, x = some (k, r, T1) ∧ e1 = k) ∨ ∃ r T, x = some (0, r, T) ∧ f r T = some (e1, r1, T1) := by
  match x, h with
  | none, h => cases h
  | some (0, r, T), h => exact .inr ⟨r, T, rfl, h⟩
  | some (k + 1, r, T), h =>
    have h := osome3 h
    refine .inl ⟨k + 1, r, ?_, h.1.symm⟩
    rw [h.2.2]
theorem othr_t {α β : Type} {x : Option (Nat × α × AT)} {z : β} {f : α → AT → Option (Nat × β × AT)} {e1 : Nat} {r1 : β} {T1 : AT} (h : othr x z f = some (e1 + 1, r1, T1)) : (∃ r, x = some (e1 + 1, r, T1)) ∨ ∃ r T, x = some (0, r, T) ∧ f r T = some (e1 + 1, r1, T1) := by
  match x, h with
  | none, h => cases h
  | some (0, r, T), h => exact .inr ⟨r, T, rfl, h⟩
  | some (k + 1, r, T), h =>
    have h := osome3 h
    refine .inl ⟨r, ?_⟩
    rw [h.1, h.2.2]
abbrev kCr (l : Launch) (y : MethodName) (ws : List Cond) (fr lo : Nat) (cI cJ cZ cMic cSrc cSt cAI cAJ : ClassId) (D : va_G) (ad : Nat → Nat) (T : AT) (As : List Value) (post : AT → Prop) (n1 : Nat) : Prop := ∀ sz : Nat, Met l y ws { frames := fr, cells := 0, slots := 0, locals := lo } (va_Pc As (kB cI cJ cZ cMic cSrc cSt cAI cAJ D ad T sz)) (va_Qr post (fun u a t => a = ad n1 ∧ kAt cI cJ cZ cMic cSrc cSt cAI cAJ D ad (va_A (cW ad T.1 (cc cI cJ cZ cMic cSrc cSt cAI cAJ ad T)) sz) u t) (va_A (cW ad T.1 (cc cI cJ cZ cMic cSrc cSt cAI cAJ ad T)) sz)) 0 0 (va_A (cW ad T.1 (cc cI cJ cZ cMic cSrc cSt cAI cAJ ad T)) sz)
theorem q_cvr {p : Program} {l : Launch} {e : Env} {R : Room} {s : State} {m : MethodId} {args : Array Value} {below : List Frame} {meth : Method} {c : Code} {H : Heap} {locs : List Loc} {cells slots : Nat} {Q : State → Prop} {cc0 : ByteArray} {pc : Nat} {ls : Array Slot} {rest : List Value} {D : va_G} {A : Nat → Prop} {Ts : List Cond} {own : String} {cI cJ cZ cMic cSrc cSt cAI cAJ : ClassId} {ad : Nat → Nat} {T : AT} {y : MethodName} {bytes : ByteArray} {maxL nL n index fr lo : Nat} {ret : Option FieldType} {ws : List Cond} {As : List Value} {C : String} {TT : u_T} {nf ci q n1 : Nat} {fs : List Value} {post : AT → Prop} (E : cE p c cc0 s m args Ts D own (CT cI cJ cZ cMic cSrc cSt cAI cAJ)) (G : gC cI cJ cZ cMic cSrc cSt cAI cAJ D ad A s.heap H locs T) (hA : ∀ q, s.heap.size ≤ q → A q) (hX : xT A s) (hN : nX s) (hml : c.maxLocals = nL) (hM : kCr l y ws fr lo cI cJ cZ cMic cSrc cSt cAI cAJ D ad T (.ref (ad q) :: As) post n1) (cw : CallW R s args own C index y bytes maxL ret ws { frames := fr, cells := 0, slots := 0, locals := lo } 0 0 n) (hq : q < T.1) (hSq : cc cI cJ cZ cMic cSrc cSt cAI cAJ ad T q = .inr (ci, fs)) (hc : vwCl[ci]? = some (C, TT, nf)) (hn : As.length = n) (hsz : ls.size = nL) {st : List Value} (hst : st = As.reverse ++ .ref (ad q) :: rest) (hW : 2 * (F0 m pc ls st).monitorRoom + (rest.map fun v => v.category).sum ≤ 8) (hdg : decode cc0 pc = .ok (.invokevirtual index, 3)) (hf : cells + 0 ≤ R.cells ∧ slots + 0 ≤ R.slots) (kk : ∀ (T1 : AT) (H1 : Heap) (locs1 : List Loc), post T1 → gC cI cJ cZ cMic cSrc cSt cAI cAJ D ad A s.heap H1 locs1 T1 → W p l e R s m args below meth c H1 locs1 (cells + 0) (slots + 0) Q (F0 m (pc + 3) ls (.ref (ad n1) :: rest))) : W p l e R s m args below meth c H locs cells slots Q (F0 m pc ls st) := by
  obtain ⟨hx, hb, hts, hown, hK⟩ := E
  obtain ⟨hP, hD, hS⟩ := G
  have hFc := va_free (wc := cW ad T.1 (cc cI cJ cZ cMic cSrc cSt cAI cAJ ad T)) hD hS hA (List.range T.1) (cW_all ad T.1 (cc cI cJ cZ cMic cSrc cSt cAI cAJ ad T))
  refine va_callr (va_runV (As := As) (rest := rest) ⟨hx, hb, hml, hown, hts⟩ (hM H.size) cw ⟨fun a U g mk q => by obtain ⟨q0, q1, qP, qK, qD, qX, qN⟩ := q; exact ⟨q0, q1, qP, va_K.moved (u := U) (U := U.calling g mk a) (Vm.Alike.refl U.vm) qK, qD, qX.blind, nX.moved U (U.calling g mk a) (State.WarmedH.refl U) qN⟩, va_recv hK hP (ci := ci) (q0 := q) hc (cW_e hq hSq), fun U hU hW => ⟨rfl, by rw [hU], by rw [hU]; exact hP, va_K.moved hW.alike hK, hD.weaken (fun _ _ _ _ => trivial), hX.go hW hU hS hFc, nX.moved s U hW hN⟩⟩ rfl hn hsz hst hW hdg hf) hS (fun q _ h => hFc q h) hFc (fun u ra t H1 locs1 ht hvm hw hB hz1 hk1 hS => ?_)
  obtain ⟨ha, hP1, hK1, hD1⟩ := hB
  rw [ht] at hP1
  rw [ha]
  obtain ⟨hP2, hD2⟩ := va_join (wr := []) (w1 := cW ad u.1 (cc cI cJ cZ cMic cSrc cSt cAI cAJ ad u)) hP hD (List.range T.1) [] (cW_all ad T.1 (cc cI cJ cZ cMic cSrc cSt cAI cAJ ad T)) rfl rfl (fun i hi => absurd hi List.not_mem_nil) hk1 hFc hP1 hD1
  exact kk u H1 locs1 hw ⟨hP2, hD2, hS⟩
abbrev kXi (l : Launch) (y : MethodName) (ws : List Cond) (fr lo : Nat) (cI cJ cZ cMic cSrc cSt cAI cAJ : ClassId) (D : va_G) (ad : Nat → Nat) (T : AT) (As : List Value) (e1 : Nat) (T1 : AT) : Prop := ∀ sz : Nat, vx_Met l y ws { frames := fr, cells := 1, slots := 6, locals := lo } (va_Pc As (kB cI cJ cZ cMic cSrc cSt cAI cAJ D ad T sz)) (va_Qi (fun (_ : Int32) (_ : AT) => False) (kAt cI cJ cZ cMic cSrc cSt cAI cAJ D ad (va_A (cW ad T.1 (cc cI cJ cZ cMic cSrc cSt cAI cAJ ad T)) sz)) (va_A (cW ad T.1 (cc cI cJ cZ cMic cSrc cSt cAI cAJ ad T)) sz)) (vx_X (fun _ => True) (fun E u t => (E = exn e1 ∧ u = T1) ∧ kAt cI cJ cZ cMic cSrc cSt cAI cAJ D ad (va_A (cW ad T.1 (cc cI cJ cZ cMic cSrc cSt cAI cAJ ad T)) sz) u t) (va_A (cW ad T.1 (cc cI cJ cZ cMic cSrc cSt cAI cAJ ad T)) sz)) 1 6 (va_A (cW ad T.1 (cc cI cJ cZ cMic cSrc cSt cAI cAJ ad T)) sz)
theorem q_xvi {p : Program} {l : Launch} {e : Env} {R : Room} {s : State} {m : MethodId} {args : Array Value} {below : List Frame} {meth : Method} {c : Code} {H : Heap} {locs : List Loc} {cells slots : Nat} {Q : State → Prop} {cc0 : ByteArray} {pc : Nat} {ls : Array Slot} {rest : List Value} {D : va_G} {A : Nat → Prop} {Ts : List Cond} {own : String} {cI cJ cZ cMic cSrc cSt cAI cAJ : ClassId} {ad : Nat → Nat} {T : AT} {y : MethodName} {bytes : ByteArray} {maxL nL n index fr lo : Nat} {ret : Option FieldType} {ws : List Cond} {As : List Value} {C : String} {TT : u_T} {nf ci q : Nat} {fs : List Value} {e1 : Nat} {T1 : AT} (E : cE p c cc0 s m args Ts D own (CT cI cJ cZ cMic cSrc cSt cAI cAJ)) (G : gC cI cJ cZ cMic cSrc cSt cAI cAJ D ad A s.heap H locs T) (hA : ∀ q, s.heap.size ≤ q → A q) (hX : xT A s) (hN : nX s) (hml : c.maxLocals = nL) (hM : kXi l y ws fr lo cI cJ cZ cMic cSrc cSt cAI cAJ D ad T (.ref (ad q) :: As) e1 T1) (cw : CallW R s args own C index y bytes maxL ret ws { frames := fr, cells := 1, slots := 6, locals := lo } 1 6 n) (hq : q < T.1) (hSq : cc cI cJ cZ cMic cSrc cSt cAI cAJ ad T q = .inr (ci, fs)) (hc : vwCl[ci]? = some (C, TT, nf)) (hn : As.length = n) (hsz : ls.size = nL) {st : List Value} (hst : st = As.reverse ++ .ref (ad q) :: rest) (hW : 2 * (F0 m pc ls st).monitorRoom + (rest.map fun v => v.category).sum ≤ 8) (hdg : decode cc0 pc = .ok (.invokevirtual index, 3)) (hf : cells + 1 ≤ R.cells ∧ slots + 6 ≤ R.slots) (kx : ∀ (E9 : String) (ce : Cell) (q9 : Addr) (T9 : AT) (H1 : Heap) (locs1 : List Loc), E9 = exn e1 ∧ T9 = T1 → gC cI cJ cZ cMic cSrc cSt cAI cAJ D ad A s.heap H1 locs1 T9 → H1[q9]? = some ce → ce.vm = .none → s.vm.findClass E9 = some ce.cls → vx_W p l e R s m args below meth c H1 locs1 (cells + 1) (slots + 6) Q (F0 m pc ls rest) q9) : W p l e R s m args below meth c H locs cells slots Q (F0 m pc ls st) := by
  obtain ⟨hx, hb, hts, hown, hK⟩ := E
  obtain ⟨hP, hD, hS⟩ := G
  have hFc := va_free (wc := cW ad T.1 (cc cI cJ cZ cMic cSrc cSt cAI cAJ ad T)) hD hS hA (List.range T.1) (cW_all ad T.1 (cc cI cJ cZ cMic cSrc cSt cAI cAJ ad T))
  refine vx_calli (vx_runV (As := As) (rest := rest) ⟨hx, hb, hml, hown, hts⟩ (hM H.size) cw ⟨fun a U g mk q => by obtain ⟨q0, q1, qP, qK, qD, qX, qN⟩ := q; exact ⟨q0, q1, qP, va_K.moved (u := U) (U := U.calling g mk a) (Vm.Alike.refl U.vm) qK, qD, qX.blind, nX.moved U (U.calling g mk a) (State.WarmedH.refl U) qN⟩, va_recv hK hP (ci := ci) (q0 := q) hc (cW_e hq hSq), fun U hU hW => ⟨rfl, by rw [hU], by rw [hU]; exact hP, va_K.moved hW.alike hK, hD.weaken (fun _ _ _ _ => trivial), hX.go hW hU hS hFc, nX.moved s U hW hN⟩⟩ rfl hn hsz hst hW hdg hf) hS (fun q _ h => hFc q h) hFc (fun q _ h => hFc q h) (fun E9 ce q9 u t H1 locs1 ht hvm _ hB hz1 hk1 hS hce hcv hcl => ?_) (fun r u t H1 locs1 ht hvm hw hB hz1 hk1 hS => hw.elim)
  obtain ⟨hpx, hP1, hK1, hD1⟩ := hB
  rw [ht] at hP1
  obtain ⟨hP2, hD2⟩ := va_join (wr := []) (w1 := cW ad u.1 (cc cI cJ cZ cMic cSrc cSt cAI cAJ ad u)) hP hD (List.range T.1) [] (cW_all ad T.1 (cc cI cJ cZ cMic cSrc cSt cAI cAJ ad T)) rfl rfl (fun i hi => absurd hi List.not_mem_nil) hk1 hFc hP1 hD1
  exact kx E9 ce q9 u H1 locs1 hpx ⟨hP2, hD2, hS⟩ hce hcv hcl
abbrev kXv (l : Launch) (y : MethodName) (ws : List Cond) (fr lo : Nat) (cI cJ cZ cMic cSrc cSt cAI cAJ : ClassId) (D : va_G) (ad : Nat → Nat) (T : AT) (As : List Value) (e1 : Nat) (T1 : AT) : Prop := ∀ sz : Nat, vx_Met l y ws { frames := fr, cells := 1, slots := 6, locals := lo } (va_Pc As (kB cI cJ cZ cMic cSrc cSt cAI cAJ D ad T sz)) (va_Qv (fun (_ : AT) => False) (kAt cI cJ cZ cMic cSrc cSt cAI cAJ D ad (va_A (cW ad T.1 (cc cI cJ cZ cMic cSrc cSt cAI cAJ ad T)) sz)) (va_A (cW ad T.1 (cc cI cJ cZ cMic cSrc cSt cAI cAJ ad T)) sz)) (vx_X (fun _ => True) (fun E u t => (E = exn e1 ∧ u = T1) ∧ kAt cI cJ cZ cMic cSrc cSt cAI cAJ D ad (va_A (cW ad T.1 (cc cI cJ cZ cMic cSrc cSt cAI cAJ ad T)) sz) u t) (va_A (cW ad T.1 (cc cI cJ cZ cMic cSrc cSt cAI cAJ ad T)) sz)) 1 6 (va_A (cW ad T.1 (cc cI cJ cZ cMic cSrc cSt cAI cAJ ad T)) sz)
theorem q_xvv {p : Program} {l : Launch} {e : Env} {R : Room} {s : State} {m : MethodId} {args : Array Value} {below : List Frame} {meth : Method} {c : Code} {H : Heap} {locs : List Loc} {cells slots : Nat} {Q : State → Prop} {cc0 : ByteArray} {pc : Nat} {ls : Array Slot} {rest : List Value} {D : va_G} {A : Nat → Prop} {Ts : List Cond} {own : String} {cI cJ cZ cMic cSrc cSt cAI cAJ : ClassId} {ad : Nat → Nat} {T : AT} {y : MethodName} {bytes : ByteArray} {maxL nL n index fr lo : Nat} {ret : Option FieldType} {ws : List Cond} {As : List Value} {C : String} {TT : u_T} {nf ci q : Nat} {fs : List Value} {e1 : Nat} {T1 : AT} (E : cE p c cc0 s m args Ts D own (CT cI cJ cZ cMic cSrc cSt cAI cAJ)) (G : gC cI cJ cZ cMic cSrc cSt cAI cAJ D ad A s.heap H locs T) (hA : ∀ q, s.heap.size ≤ q → A q) (hX : xT A s) (hN : nX s) (hml : c.maxLocals = nL) (hM : kXv l y ws fr lo cI cJ cZ cMic cSrc cSt cAI cAJ D ad T (.ref (ad q) :: As) e1 T1) (cw : CallW R s args own C index y bytes maxL ret ws { frames := fr, cells := 1, slots := 6, locals := lo } 1 6 n) (hq : q < T.1) (hSq : cc cI cJ cZ cMic cSrc cSt cAI cAJ ad T q = .inr (ci, fs)) (hc : vwCl[ci]? = some (C, TT, nf)) (hn : As.length = n) (hsz : ls.size = nL) {st : List Value} (hst : st = As.reverse ++ .ref (ad q) :: rest) (hW : 2 * (F0 m pc ls st).monitorRoom + (rest.map fun v => v.category).sum ≤ 8) (hdg : decode cc0 pc = .ok (.invokevirtual index, 3)) (hf : cells + 1 ≤ R.cells ∧ slots + 6 ≤ R.slots) (kx : ∀ (E9 : String) (ce : Cell) (q9 : Addr) (T9 : AT) (H1 : Heap) (locs1 : List Loc), E9 = exn e1 ∧ T9 = T1 → gC cI cJ cZ cMic cSrc cSt cAI cAJ D ad A s.heap H1 locs1 T9 → H1[q9]? = some ce → ce.vm = .none → s.vm.findClass E9 = some ce.cls → vx_W p l e R s m args below meth c H1 locs1 (cells + 1) (slots + 6) Q (F0 m pc ls rest) q9) : W p l e R s m args below meth c H locs cells slots Q (F0 m pc ls st) := by
  obtain ⟨hx, hb, hts, hown, hK⟩ := E
  obtain ⟨hP, hD, hS⟩ := G
  have hFc := va_free (wc := cW ad T.1 (cc cI cJ cZ cMic cSrc cSt cAI cAJ ad T)) hD hS hA (List.range T.1) (cW_all ad T.1 (cc cI cJ cZ cMic cSrc cSt cAI cAJ ad T))
  refine vx_callv (vx_runV (As := As) (rest := rest) ⟨hx, hb, hml, hown, hts⟩ (hM H.size) cw ⟨fun a U g mk q => by obtain ⟨q0, q1, qP, qK, qD, qX, qN⟩ := q; exact ⟨q0, q1, qP, va_K.moved (u := U) (U := U.calling g mk a) (Vm.Alike.refl U.vm) qK, qD, qX.blind, nX.moved U (U.calling g mk a) (State.WarmedH.refl U) qN⟩, va_recv hK hP (ci := ci) (q0 := q) hc (cW_e hq hSq), fun U hU hW => ⟨rfl, by rw [hU], by rw [hU]; exact hP, va_K.moved hW.alike hK, hD.weaken (fun _ _ _ _ => trivial), hX.go hW hU hS hFc, nX.moved s U hW hN⟩⟩ rfl hn hsz hst hW hdg hf) hS (fun q _ h => hFc q h) hFc (fun q _ h => hFc q h) (fun E9 ce q9 u t H1 locs1 ht hvm _ hB hz1 hk1 hS hce hcv hcl => ?_) (fun u t H1 locs1 ht hvm hw hB hz1 hk1 hS => hw.elim)
  obtain ⟨hpx, hP1, hK1, hD1⟩ := hB
  rw [ht] at hP1
  obtain ⟨hP2, hD2⟩ := va_join (wr := []) (w1 := cW ad u.1 (cc cI cJ cZ cMic cSrc cSt cAI cAJ ad u)) hP hD (List.range T.1) [] (cW_all ad T.1 (cc cI cJ cZ cMic cSrc cSt cAI cAJ ad T)) rfl rfl (fun i hi => absurd hi List.not_mem_nil) hk1 hFc hP1 hD1
  exact kx E9 ce q9 u H1 locs1 hpx ⟨hP2, hD2, hS⟩ hce hcv hcl
theorem q_xsv {p : Program} {l : Launch} {e : Env} {R : Room} {s : State} {m : MethodId} {args : Array Value} {below : List Frame} {meth : Method} {c : Code} {H : Heap} {locs : List Loc} {cells slots : Nat} {Q : State → Prop} {cc0 : ByteArray} {pc : Nat} {ls : Array Slot} {rest : List Value} {D : va_G} {A : Nat → Prop} {Ts : List Cond} {own : String} {cI cJ cZ cMic cSrc cSt cAI cAJ : ClassId} {ad : Nat → Nat} {T : AT} {y : MethodName} {bytes : ByteArray} {maxL nL n index fr lo : Nat} {ret : Option FieldType} {ws : List Cond} {As : List Value} {e1 : Nat} {T1 : AT} (E : cE p c cc0 s m args Ts D own (CT cI cJ cZ cMic cSrc cSt cAI cAJ)) (G : gC cI cJ cZ cMic cSrc cSt cAI cAJ D ad A s.heap H locs T) (hA : ∀ q, s.heap.size ≤ q → A q) (hX : xT A s) (hN : nX s) (hml : c.maxLocals = nL) (hM : kXv l y ws fr lo cI cJ cZ cMic cSrc cSt cAI cAJ D ad T (As) e1 T1) (cw : CallB R s args own index y bytes maxL ret ws { frames := fr, cells := 1, slots := 6, locals := lo } 1 6 n ∧ (Cond.static y).before args s = true) (hn : As.length = n) (hsz : ls.size = nL) {st : List Value} (hst : st = As.reverse ++ rest) (hW : 2 * (F0 m pc ls st).monitorRoom + (rest.map fun v => v.category).sum ≤ 8) (hdg : decode cc0 pc = .ok (.invokestatic index, 3)) (hf : cells + 1 ≤ R.cells ∧ slots + 6 ≤ R.slots) (kx : ∀ (E9 : String) (ce : Cell) (q9 : Addr) (T9 : AT) (H1 : Heap) (locs1 : List Loc), E9 = exn e1 ∧ T9 = T1 → gC cI cJ cZ cMic cSrc cSt cAI cAJ D ad A s.heap H1 locs1 T9 → H1[q9]? = some ce → ce.vm = .none → s.vm.findClass E9 = some ce.cls → vx_W p l e R s m args below meth c H1 locs1 (cells + 1) (slots + 6) Q (F0 m pc ls rest) q9) : W p l e R s m args below meth c H locs cells slots Q (F0 m pc ls st) := by
  obtain ⟨hx, hb, hts, hown, hK⟩ := E
  obtain ⟨hP, hD, hS⟩ := G
  have hFc := va_free (wc := cW ad T.1 (cc cI cJ cZ cMic cSrc cSt cAI cAJ ad T)) hD hS hA (List.range T.1) (cW_all ad T.1 (cc cI cJ cZ cMic cSrc cSt cAI cAJ ad T))
  refine vx_callv (vx_runS (As := As) (rest := rest) ⟨hx, hb, hml, hown, hts⟩ (hM H.size) cw ⟨fun a U g mk q => by obtain ⟨q0, q1, qP, qK, qD, qX, qN⟩ := q; exact ⟨q0, q1, qP, va_K.moved (u := U) (U := U.calling g mk a) (Vm.Alike.refl U.vm) qK, qD, qX.blind, nX.moved U (U.calling g mk a) (State.WarmedH.refl U) qN⟩, fun U hU hW => ⟨rfl, by rw [hU], by rw [hU]; exact hP, va_K.moved hW.alike hK, hD.weaken (fun _ _ _ _ => trivial), hX.go hW hU hS hFc, nX.moved s U hW hN⟩⟩ rfl hn hsz hst hW hdg hf) hS (fun q _ h => hFc q h) hFc (fun q _ h => hFc q h) (fun E9 ce q9 u t H1 locs1 ht hvm _ hB hz1 hk1 hS hce hcv hcl => ?_) (fun u t H1 locs1 ht hvm hw hB hz1 hk1 hS => hw.elim)
  obtain ⟨hpx, hP1, hK1, hD1⟩ := hB
  rw [ht] at hP1
  obtain ⟨hP2, hD2⟩ := va_join (wr := []) (w1 := cW ad u.1 (cc cI cJ cZ cMic cSrc cSt cAI cAJ ad u)) hP hD (List.range T.1) [] (cW_all ad T.1 (cc cI cJ cZ cMic cSrc cSt cAI cAJ ad T)) rfl rfl (fun i hi => absurd hi List.not_mem_nil) hk1 hFc hP1 hD1
  exact kx E9 ce q9 u H1 locs1 hpx ⟨hP2, hD2, hS⟩ hce hcv hcl
abbrev kAi (l : Launch) (y : MethodName) (ws : List Cond) (fr lo : Nat) (cI cJ cZ cMic cSrc cSt cAI cAJ : ClassId) (D : va_G) (ad : Nat → Nat) (T : AT) (As : List Value) (r1 : Int32) (T1 : AT) : Prop := ∀ sz : Nat, Met l y ws { frames := fr, cells := T1.1 - T.1, slots := sg T1 - sg T, locals := lo } (va_Pc As (kB cI cJ cZ cMic cSrc cSt cAI cAJ D ad T sz)) (va_Qi (fun r (u : AT × (Nat → Nat)) => r = r1 ∧ u.1 = T1 ∧ ∀ n, n < T.1 → u.2 n = ad n) (fun (u : AT × (Nat → Nat)) t => kAt cI cJ cZ cMic cSrc cSt cAI cAJ D u.2 (va_A (cW ad T.1 (cc cI cJ cZ cMic cSrc cSt cAI cAJ ad T)) sz) u.1 t) (va_A (cW ad T.1 (cc cI cJ cZ cMic cSrc cSt cAI cAJ ad T)) sz)) (T1.1 - T.1) (sg T1 - sg T) (va_A (cW ad T.1 (cc cI cJ cZ cMic cSrc cSt cAI cAJ ad T)) sz)
theorem q_avi {p : Program} {l : Launch} {e : Env} {R : Room} {s : State} {m : MethodId} {args : Array Value} {below : List Frame} {meth : Method} {c : Code} {H : Heap} {locs : List Loc} {cells slots : Nat} {Q : State → Prop} {cc0 : ByteArray} {pc : Nat} {ls : Array Slot} {rest : List Value} {D : va_G} {A : Nat → Prop} {Ts : List Cond} {own : String} {cI cJ cZ cMic cSrc cSt cAI cAJ : ClassId} {ad : Nat → Nat} {T : AT} {y : MethodName} {bytes : ByteArray} {maxL nL n index fr lo : Nat} {ret : Option FieldType} {ws : List Cond} {As : List Value} {C : String} {TT : u_T} {nf ci q : Nat} {fs : List Value} {r1 : Int32} {T1 : AT} (E : cE p c cc0 s m args Ts D own (CT cI cJ cZ cMic cSrc cSt cAI cAJ)) (G : gC cI cJ cZ cMic cSrc cSt cAI cAJ D ad A s.heap H locs T) (hA : ∀ q, s.heap.size ≤ q → A q) (hX : xT A s) (hN : nX s) (hml : c.maxLocals = nL) (hM : kAi l y ws fr lo cI cJ cZ cMic cSrc cSt cAI cAJ D ad T (.ref (ad q) :: As) r1 T1) (cw : CallW R s args own C index y bytes maxL ret ws { frames := fr, cells := T1.1 - T.1, slots := sg T1 - sg T, locals := lo } (T1.1 - T.1) (sg T1 - sg T) n) (hq : q < T.1) (hSq : cc cI cJ cZ cMic cSrc cSt cAI cAJ ad T q = .inr (ci, fs)) (hc : vwCl[ci]? = some (C, TT, nf)) (hn : As.length = n) (hsz : ls.size = nL) {st : List Value} (hst : st = As.reverse ++ .ref (ad q) :: rest) (hW : 2 * (F0 m pc ls st).monitorRoom + (rest.map fun v => v.category).sum ≤ 8) (hdg : decode cc0 pc = .ok (.invokevirtual index, 3)) (hf : cells + (T1.1 - T.1) ≤ R.cells ∧ slots + (sg T1 - sg T) ≤ R.slots) (kk : ∀ (ad2 : Nat → Nat) (H1 : Heap) (locs1 : List Loc), (∀ n, n < T.1 → ad2 n = ad n) → gC cI cJ cZ cMic cSrc cSt cAI cAJ D ad2 A s.heap H1 locs1 T1 → W p l e R s m args below meth c H1 locs1 (cells + (T1.1 - T.1)) (slots + (sg T1 - sg T)) Q (F0 m (pc + 3) ls (.int r1 :: rest))) : W p l e R s m args below meth c H locs cells slots Q (F0 m pc ls st) := by
  obtain ⟨hx, hb, hts, hown, hK⟩ := E
  obtain ⟨hP, hD, hS⟩ := G
  have hFc := va_free (wc := cW ad T.1 (cc cI cJ cZ cMic cSrc cSt cAI cAJ ad T)) hD hS hA (List.range T.1) (cW_all ad T.1 (cc cI cJ cZ cMic cSrc cSt cAI cAJ ad T))
  refine va_calli (va_runV (As := As) (rest := rest) ⟨hx, hb, hml, hown, hts⟩ (hM H.size) cw ⟨fun a U g mk q => by obtain ⟨q0, q1, qP, qK, qD, qX, qN⟩ := q; exact ⟨q0, q1, qP, va_K.moved (u := U) (U := U.calling g mk a) (Vm.Alike.refl U.vm) qK, qD, qX.blind, nX.moved U (U.calling g mk a) (State.WarmedH.refl U) qN⟩, va_recv hK hP (ci := ci) (q0 := q) hc (cW_e hq hSq), fun U hU hW => ⟨rfl, by rw [hU], by rw [hU]; exact hP, va_K.moved hW.alike hK, hD.weaken (fun _ _ _ _ => trivial), hX.go hW hU hS hFc, nX.moved s U hW hN⟩⟩ rfl hn hsz hst hW hdg hf) hS (fun q _ h => hFc q h) hFc (fun r u t H1 locs1 ht hvm hw hB hz1 hk1 hS => ?_)
  obtain ⟨u1, u2⟩ := u
  obtain ⟨hw1, hw2, hw3⟩ := hw
  have hw2 : u1 = T1 := hw2
  obtain ⟨hP1, hK1, hD1⟩ := hB
  rw [ht] at hP1
  obtain ⟨hP2, hD2⟩ := va_join (wr := []) (w1 := cW u2 u1.1 (cc cI cJ cZ cMic cSrc cSt cAI cAJ u2 u1)) hP hD (List.range T.1) [] (cW_all ad T.1 (cc cI cJ cZ cMic cSrc cSt cAI cAJ ad T)) rfl rfl (fun i hi => absurd hi List.not_mem_nil) hk1 hFc hP1 hD1
  rw [hw1]
  rw [hw2] at hP2 hD2
  exact kk u2 H1 locs1 hw3 ⟨hP2, hD2, hS⟩
abbrev kAXi (l : Launch) (y : MethodName) (ws : List Cond) (fr lo : Nat) (cI cJ cZ cMic cSrc cSt cAI cAJ : ClassId) (D : va_G) (ad : Nat → Nat) (T : AT) (As : List Value) (e1 : Nat) (T1 : AT) : Prop := ∀ sz : Nat, vx_Met l y ws { frames := fr, cells := T1.1 - T.1 + 1, slots := sg T1 - sg T + 6, locals := lo } (va_Pc As (kB cI cJ cZ cMic cSrc cSt cAI cAJ D ad T sz)) (va_Qi (fun (_ : Int32) (_ : AT × (Nat → Nat)) => False) (fun (u : AT × (Nat → Nat)) t => kAt cI cJ cZ cMic cSrc cSt cAI cAJ D u.2 (va_A (cW ad T.1 (cc cI cJ cZ cMic cSrc cSt cAI cAJ ad T)) sz) u.1 t) (va_A (cW ad T.1 (cc cI cJ cZ cMic cSrc cSt cAI cAJ ad T)) sz)) (vx_X (fun _ => True) (fun E (u : AT × (Nat → Nat)) t => (E = exn e1 ∧ u.1 = T1 ∧ ∀ n, n < T.1 → u.2 n = ad n) ∧ kAt cI cJ cZ cMic cSrc cSt cAI cAJ D u.2 (va_A (cW ad T.1 (cc cI cJ cZ cMic cSrc cSt cAI cAJ ad T)) sz) u.1 t) (va_A (cW ad T.1 (cc cI cJ cZ cMic cSrc cSt cAI cAJ ad T)) sz)) (T1.1 - T.1 + 1) (sg T1 - sg T + 6) (va_A (cW ad T.1 (cc cI cJ cZ cMic cSrc cSt cAI cAJ ad T)) sz)
abbrev kAl (l : Launch) (y : MethodName) (ws : List Cond) (fr lo : Nat) (cI cJ cZ cMic cSrc cSt cAI cAJ : ClassId) (D : va_G) (ad : Nat → Nat) (T : AT) (As : List Value) (r1 : Int64) (T1 : AT) : Prop := ∀ sz : Nat, Met l y ws { frames := fr, cells := T1.1 - T.1, slots := sg T1 - sg T, locals := lo } (va_Pc As (kB cI cJ cZ cMic cSrc cSt cAI cAJ D ad T sz)) (va_Ql (fun r (u : AT × (Nat → Nat)) => r = r1 ∧ u.1 = T1 ∧ ∀ n, n < T.1 → u.2 n = ad n) (fun (u : AT × (Nat → Nat)) t => kAt cI cJ cZ cMic cSrc cSt cAI cAJ D u.2 (va_A (cW ad T.1 (cc cI cJ cZ cMic cSrc cSt cAI cAJ ad T)) sz) u.1 t) (va_A (cW ad T.1 (cc cI cJ cZ cMic cSrc cSt cAI cAJ ad T)) sz)) (T1.1 - T.1) (sg T1 - sg T) (va_A (cW ad T.1 (cc cI cJ cZ cMic cSrc cSt cAI cAJ ad T)) sz)
abbrev kAXl (l : Launch) (y : MethodName) (ws : List Cond) (fr lo : Nat) (cI cJ cZ cMic cSrc cSt cAI cAJ : ClassId) (D : va_G) (ad : Nat → Nat) (T : AT) (As : List Value) (e1 : Nat) (T1 : AT) : Prop := ∀ sz : Nat, vx_Met l y ws { frames := fr, cells := T1.1 - T.1 + 1, slots := sg T1 - sg T + 6, locals := lo } (va_Pc As (kB cI cJ cZ cMic cSrc cSt cAI cAJ D ad T sz)) (va_Ql (fun (_ : Int64) (_ : AT × (Nat → Nat)) => False) (fun (u : AT × (Nat → Nat)) t => kAt cI cJ cZ cMic cSrc cSt cAI cAJ D u.2 (va_A (cW ad T.1 (cc cI cJ cZ cMic cSrc cSt cAI cAJ ad T)) sz) u.1 t) (va_A (cW ad T.1 (cc cI cJ cZ cMic cSrc cSt cAI cAJ ad T)) sz)) (vx_X (fun _ => True) (fun E (u : AT × (Nat → Nat)) t => (E = exn e1 ∧ u.1 = T1 ∧ ∀ n, n < T.1 → u.2 n = ad n) ∧ kAt cI cJ cZ cMic cSrc cSt cAI cAJ D u.2 (va_A (cW ad T.1 (cc cI cJ cZ cMic cSrc cSt cAI cAJ ad T)) sz) u.1 t) (va_A (cW ad T.1 (cc cI cJ cZ cMic cSrc cSt cAI cAJ ad T)) sz)) (T1.1 - T.1 + 1) (sg T1 - sg T + 6) (va_A (cW ad T.1 (cc cI cJ cZ cMic cSrc cSt cAI cAJ ad T)) sz)
abbrev kAf (l : Launch) (y : MethodName) (ws : List Cond) (fr lo : Nat) (cI cJ cZ cMic cSrc cSt cAI cAJ : ClassId) (D : va_G) (ad : Nat → Nat) (T : AT) (As : List Value) (r1 : UInt32) (T1 : AT) : Prop := ∀ sz : Nat, Met l y ws { frames := fr, cells := T1.1 - T.1, slots := sg T1 - sg T, locals := lo } (va_Pc As (kB cI cJ cZ cMic cSrc cSt cAI cAJ D ad T sz)) (va_Qf (fun r (u : AT × (Nat → Nat)) => r = r1 ∧ u.1 = T1 ∧ ∀ n, n < T.1 → u.2 n = ad n) (fun (u : AT × (Nat → Nat)) t => kAt cI cJ cZ cMic cSrc cSt cAI cAJ D u.2 (va_A (cW ad T.1 (cc cI cJ cZ cMic cSrc cSt cAI cAJ ad T)) sz) u.1 t) (va_A (cW ad T.1 (cc cI cJ cZ cMic cSrc cSt cAI cAJ ad T)) sz)) (T1.1 - T.1) (sg T1 - sg T) (va_A (cW ad T.1 (cc cI cJ cZ cMic cSrc cSt cAI cAJ ad T)) sz)
abbrev kAXf (l : Launch) (y : MethodName) (ws : List Cond) (fr lo : Nat) (cI cJ cZ cMic cSrc cSt cAI cAJ : ClassId) (D : va_G) (ad : Nat → Nat) (T : AT) (As : List Value) (e1 : Nat) (T1 : AT) : Prop := ∀ sz : Nat, vx_Met l y ws { frames := fr, cells := T1.1 - T.1 + 1, slots := sg T1 - sg T + 6, locals := lo } (va_Pc As (kB cI cJ cZ cMic cSrc cSt cAI cAJ D ad T sz)) (va_Qf (fun (_ : UInt32) (_ : AT × (Nat → Nat)) => False) (fun (u : AT × (Nat → Nat)) t => kAt cI cJ cZ cMic cSrc cSt cAI cAJ D u.2 (va_A (cW ad T.1 (cc cI cJ cZ cMic cSrc cSt cAI cAJ ad T)) sz) u.1 t) (va_A (cW ad T.1 (cc cI cJ cZ cMic cSrc cSt cAI cAJ ad T)) sz)) (vx_X (fun _ => True) (fun E (u : AT × (Nat → Nat)) t => (E = exn e1 ∧ u.1 = T1 ∧ ∀ n, n < T.1 → u.2 n = ad n) ∧ kAt cI cJ cZ cMic cSrc cSt cAI cAJ D u.2 (va_A (cW ad T.1 (cc cI cJ cZ cMic cSrc cSt cAI cAJ ad T)) sz) u.1 t) (va_A (cW ad T.1 (cc cI cJ cZ cMic cSrc cSt cAI cAJ ad T)) sz)) (T1.1 - T.1 + 1) (sg T1 - sg T + 6) (va_A (cW ad T.1 (cc cI cJ cZ cMic cSrc cSt cAI cAJ ad T)) sz)
abbrev kAv (l : Launch) (y : MethodName) (ws : List Cond) (fr lo : Nat) (cI cJ cZ cMic cSrc cSt cAI cAJ : ClassId) (D : va_G) (ad : Nat → Nat) (T : AT) (As : List Value) (T1 : AT) : Prop := ∀ sz : Nat, Met l y ws { frames := fr, cells := T1.1 - T.1, slots := sg T1 - sg T, locals := lo } (va_Pc As (kB cI cJ cZ cMic cSrc cSt cAI cAJ D ad T sz)) (va_Qv (fun (u : AT × (Nat → Nat)) => u.1 = T1 ∧ ∀ n, n < T.1 → u.2 n = ad n) (fun (u : AT × (Nat → Nat)) t => kAt cI cJ cZ cMic cSrc cSt cAI cAJ D u.2 (va_A (cW ad T.1 (cc cI cJ cZ cMic cSrc cSt cAI cAJ ad T)) sz) u.1 t) (va_A (cW ad T.1 (cc cI cJ cZ cMic cSrc cSt cAI cAJ ad T)) sz)) (T1.1 - T.1) (sg T1 - sg T) (va_A (cW ad T.1 (cc cI cJ cZ cMic cSrc cSt cAI cAJ ad T)) sz)
theorem q_avv {p : Program} {l : Launch} {e : Env} {R : Room} {s : State} {m : MethodId} {args : Array Value} {below : List Frame} {meth : Method} {c : Code} {H : Heap} {locs : List Loc} {cells slots : Nat} {Q : State → Prop} {cc0 : ByteArray} {pc : Nat} {ls : Array Slot} {rest : List Value} {D : va_G} {A : Nat → Prop} {Ts : List Cond} {own : String} {cI cJ cZ cMic cSrc cSt cAI cAJ : ClassId} {ad : Nat → Nat} {T : AT} {y : MethodName} {bytes : ByteArray} {maxL nL n index fr lo : Nat} {ret : Option FieldType} {ws : List Cond} {As : List Value} {C : String} {TT : u_T} {nf ci q : Nat} {fs : List Value} {T1 : AT} (E : cE p c cc0 s m args Ts D own (CT cI cJ cZ cMic cSrc cSt cAI cAJ)) (G : gC cI cJ cZ cMic cSrc cSt cAI cAJ D ad A s.heap H locs T) (hA : ∀ q, s.heap.size ≤ q → A q) (hX : xT A s) (hN : nX s) (hml : c.maxLocals = nL) (hM : kAv l y ws fr lo cI cJ cZ cMic cSrc cSt cAI cAJ D ad T (.ref (ad q) :: As) T1) (cw : CallW R s args own C index y bytes maxL ret ws { frames := fr, cells := T1.1 - T.1, slots := sg T1 - sg T, locals := lo } (T1.1 - T.1) (sg T1 - sg T) n) (hq : q < T.1) (hSq : cc cI cJ cZ cMic cSrc cSt cAI cAJ ad T q = .inr (ci, fs)) (hc : vwCl[ci]? = some (C, TT, nf)) (hn : As.length = n) (hsz : ls.size = nL) {st : List Value} (hst : st = As.reverse ++ .ref (ad q) :: rest) (hW : 2 * (F0 m pc ls st).monitorRoom + (rest.map fun v => v.category).sum ≤ 8) (hdg : decode cc0 pc = .ok (.invokevirtual index, 3)) (hf : cells + (T1.1 - T.1) ≤ R.cells ∧ slots + (sg T1 - sg T) ≤ R.slots) (kk : ∀ (ad2 : Nat → Nat) (H1 : Heap) (locs1 : List Loc), (∀ n, n < T.1 → ad2 n = ad n) → gC cI cJ cZ cMic cSrc cSt cAI cAJ D ad2 A s.heap H1 locs1 T1 → W p l e R s m args below meth c H1 locs1 (cells + (T1.1 - T.1)) (slots + (sg T1 - sg T)) Q (F0 m (pc + 3) ls rest)) : W p l e R s m args below meth c H locs cells slots Q (F0 m pc ls st) := by
  obtain ⟨hx, hb, hts, hown, hK⟩ := E
  obtain ⟨hP, hD, hS⟩ := G
  have hFc := va_free (wc := cW ad T.1 (cc cI cJ cZ cMic cSrc cSt cAI cAJ ad T)) hD hS hA (List.range T.1) (cW_all ad T.1 (cc cI cJ cZ cMic cSrc cSt cAI cAJ ad T))
  refine va_callv (va_runV (As := As) (rest := rest) ⟨hx, hb, hml, hown, hts⟩ (hM H.size) cw ⟨fun a U g mk q => by obtain ⟨q0, q1, qP, qK, qD, qX, qN⟩ := q; exact ⟨q0, q1, qP, va_K.moved (u := U) (U := U.calling g mk a) (Vm.Alike.refl U.vm) qK, qD, qX.blind, nX.moved U (U.calling g mk a) (State.WarmedH.refl U) qN⟩, va_recv hK hP (ci := ci) (q0 := q) hc (cW_e hq hSq), fun U hU hW => ⟨rfl, by rw [hU], by rw [hU]; exact hP, va_K.moved hW.alike hK, hD.weaken (fun _ _ _ _ => trivial), hX.go hW hU hS hFc, nX.moved s U hW hN⟩⟩ rfl hn hsz hst hW hdg hf) hS (fun q _ h => hFc q h) hFc (fun u t H1 locs1 ht hvm hw hB hz1 hk1 hS => ?_)
  obtain ⟨u1, u2⟩ := u
  obtain ⟨hw2, hw3⟩ := hw
  have hw2 : u1 = T1 := hw2
  obtain ⟨hP1, hK1, hD1⟩ := hB
  rw [ht] at hP1
  obtain ⟨hP2, hD2⟩ := va_join (wr := []) (w1 := cW u2 u1.1 (cc cI cJ cZ cMic cSrc cSt cAI cAJ u2 u1)) hP hD (List.range T.1) [] (cW_all ad T.1 (cc cI cJ cZ cMic cSrc cSt cAI cAJ ad T)) rfl rfl (fun i hi => absurd hi List.not_mem_nil) hk1 hFc hP1 hD1
  rw [hw2] at hP2 hD2
  exact kk u2 H1 locs1 hw3 ⟨hP2, hD2, hS⟩
abbrev kAr (l : Launch) (y : MethodName) (ws : List Cond) (fr lo : Nat) (cI cJ cZ cMic cSrc cSt cAI cAJ : ClassId) (D : va_G) (ad : Nat → Nat) (T : AT) (As : List Value) (r1 : Nat) (T1 : AT) : Prop := ∀ sz : Nat, Met l y ws { frames := fr, cells := T1.1 - T.1, slots := sg T1 - sg T, locals := lo } (va_Pc As (kB cI cJ cZ cMic cSrc cSt cAI cAJ D ad T sz)) (va_Qr (fun (u : AT × (Nat → Nat)) => u.1 = T1 ∧ ∀ n, n < T.1 → u.2 n = ad n) (fun (u : AT × (Nat → Nat)) a t => a = u.2 r1 ∧ kAt cI cJ cZ cMic cSrc cSt cAI cAJ D u.2 (va_A (cW ad T.1 (cc cI cJ cZ cMic cSrc cSt cAI cAJ ad T)) sz) u.1 t) (va_A (cW ad T.1 (cc cI cJ cZ cMic cSrc cSt cAI cAJ ad T)) sz)) (T1.1 - T.1) (sg T1 - sg T) (va_A (cW ad T.1 (cc cI cJ cZ cMic cSrc cSt cAI cAJ ad T)) sz)
theorem q_avr {p : Program} {l : Launch} {e : Env} {R : Room} {s : State} {m : MethodId} {args : Array Value} {below : List Frame} {meth : Method} {c : Code} {H : Heap} {locs : List Loc} {cells slots : Nat} {Q : State → Prop} {cc0 : ByteArray} {pc : Nat} {ls : Array Slot} {rest : List Value} {D : va_G} {A : Nat → Prop} {Ts : List Cond} {own : String} {cI cJ cZ cMic cSrc cSt cAI cAJ : ClassId} {ad : Nat → Nat} {T : AT} {y : MethodName} {bytes : ByteArray} {maxL nL n index fr lo : Nat} {ret : Option FieldType} {ws : List Cond} {As : List Value} {C : String} {TT : u_T} {nf ci q : Nat} {fs : List Value} {r1 : Nat} {T1 : AT} (E : cE p c cc0 s m args Ts D own (CT cI cJ cZ cMic cSrc cSt cAI cAJ)) (G : gC cI cJ cZ cMic cSrc cSt cAI cAJ D ad A s.heap H locs T) (hA : ∀ q, s.heap.size ≤ q → A q) (hX : xT A s) (hN : nX s) (hml : c.maxLocals = nL) (hM : kAr l y ws fr lo cI cJ cZ cMic cSrc cSt cAI cAJ D ad T (.ref (ad q) :: As) r1 T1) (cw : CallW R s args own C index y bytes maxL ret ws { frames := fr, cells := T1.1 - T.1, slots := sg T1 - sg T, locals := lo } (T1.1 - T.1) (sg T1 - sg T) n) (hq : q < T.1) (hSq : cc cI cJ cZ cMic cSrc cSt cAI cAJ ad T q = .inr (ci, fs)) (hc : vwCl[ci]? = some (C, TT, nf)) (hn : As.length = n) (hsz : ls.size = nL) {st : List Value} (hst : st = As.reverse ++ .ref (ad q) :: rest) (hW : 2 * (F0 m pc ls st).monitorRoom + (rest.map fun v => v.category).sum ≤ 8) (hdg : decode cc0 pc = .ok (.invokevirtual index, 3)) (hf : cells + (T1.1 - T.1) ≤ R.cells ∧ slots + (sg T1 - sg T) ≤ R.slots) (kk : ∀ (ad2 : Nat → Nat) (H1 : Heap) (locs1 : List Loc), (∀ n, n < T.1 → ad2 n = ad n) → gC cI cJ cZ cMic cSrc cSt cAI cAJ D ad2 A s.heap H1 locs1 T1 → W p l e R s m args below meth c H1 locs1 (cells + (T1.1 - T.1)) (slots + (sg T1 - sg T)) Q (F0 m (pc + 3) ls (.ref (ad2 r1) :: rest))) : W p l e R s m args below meth c H locs cells slots Q (F0 m pc ls st) := by
  obtain ⟨hx, hb, hts, hown, hK⟩ := E
  obtain ⟨hP, hD, hS⟩ := G
  have hFc := va_free (wc := cW ad T.1 (cc cI cJ cZ cMic cSrc cSt cAI cAJ ad T)) hD hS hA (List.range T.1) (cW_all ad T.1 (cc cI cJ cZ cMic cSrc cSt cAI cAJ ad T))
  refine va_callr (va_runV (As := As) (rest := rest) ⟨hx, hb, hml, hown, hts⟩ (hM H.size) cw ⟨fun a U g mk q => by obtain ⟨q0, q1, qP, qK, qD, qX, qN⟩ := q; exact ⟨q0, q1, qP, va_K.moved (u := U) (U := U.calling g mk a) (Vm.Alike.refl U.vm) qK, qD, qX.blind, nX.moved U (U.calling g mk a) (State.WarmedH.refl U) qN⟩, va_recv hK hP (ci := ci) (q0 := q) hc (cW_e hq hSq), fun U hU hW => ⟨rfl, by rw [hU], by rw [hU]; exact hP, va_K.moved hW.alike hK, hD.weaken (fun _ _ _ _ => trivial), hX.go hW hU hS hFc, nX.moved s U hW hN⟩⟩ rfl hn hsz hst hW hdg hf) hS (fun q _ h => hFc q h) hFc (fun u ra t H1 locs1 ht hvm hw hB hz1 hk1 hS => ?_)
  obtain ⟨u1, u2⟩ := u
  obtain ⟨hw2, hw3⟩ := hw
  have hw2 : u1 = T1 := hw2
  obtain ⟨ha, hP1, hK1, hD1⟩ := hB
  rw [ht] at hP1
  obtain ⟨hP2, hD2⟩ := va_join (wr := []) (w1 := cW u2 u1.1 (cc cI cJ cZ cMic cSrc cSt cAI cAJ u2 u1)) hP hD (List.range T.1) [] (cW_all ad T.1 (cc cI cJ cZ cMic cSrc cSt cAI cAJ ad T)) rfl rfl (fun i hi => absurd hi List.not_mem_nil) hk1 hFc hP1 hD1
  rw [ha]
  rw [hw2] at hP2 hD2
  exact kk u2 H1 locs1 hw3 ⟨hP2, hD2, hS⟩
theorem q_sti {p : Program} {l : Launch} {e : Env} {R : Room} {s : State} {m : MethodId} {args : Array Value} {below : List Frame} {meth : Method} {c : Code} {H : Heap} {locs : List Loc} {cells slots : Nat} {Q : State → Prop} {cc0 : ByteArray} {pc : Nat} {ls : Array Slot} {rest : List Value} {Ts : List Cond} {own : String} {y : MethodName} {bytes : ByteArray} {maxL nL n index fr lo : Nat} {ret : Option FieldType} {ws : List Cond} {As : List Value} {post : Int32 → Prop} (F : CallFix p m c cc0 nL s args Ts own) (hN : nX s) (hM : Met l y ws { frames := fr, cells := 0, slots := 0, locals := lo } (va_Pc As nX) (vp_Si post) 0 0 (fun _ => False)) (cw : CallB R s args own index y bytes maxL ret ws { frames := fr, cells := 0, slots := 0, locals := lo } 0 0 n ∧ (Cond.static y).before args s = true) (hn : As.length = n) (hsz : ls.size = nL) {st : List Value} (hst : st = As.reverse ++ rest) (hW : 2 * (F0 m pc ls st).monitorRoom + (rest.map fun v => v.category).sum ≤ 8) (hdg : decode cc0 pc = .ok (.invokestatic index, 3)) (hf : cells + 0 ≤ R.cells ∧ slots + 0 ≤ R.slots) (kk : ∀ r : Int32, post r → W p l e R s m args below meth c H locs cells slots Q (F0 m (pc + 3) ls (.int r :: rest))) : W p l e R s m args below meth c H locs cells slots Q (F0 m pc ls st) :=
  vp_callSi (W.runS F hM cw ⟨fun a U g mk q => ⟨q.1, nX.moved U (U.calling g mk a) (State.WarmedH.refl U) q.2⟩, fun U hU hW => ⟨rfl, nX.moved s U hW hN⟩⟩ rfl hn hsz hst hW hdg hf) kk
theorem q_stiN {p : Program} {l : Launch} {e : Env} {R : Room} {s : State} {m : MethodId} {args : Array Value} {below : List Frame} {meth : Method} {c : Code} {H : Heap} {locs : List Loc} {cells slots : Nat} {Q : State → Prop} {cc0 : ByteArray} {pc : Nat} {ls : Array Slot} {rest : List Value} {Ts : List Cond} {own host : String} {y : MethodName} {bytes : ByteArray} {maxL nL n index fr lo : Nat} {ret : Option FieldType} {ws : List Cond} {As : List Value} {post : Int32 → Prop} (F : CallFix p m c cc0 nL s args Ts own) (hN : nX s) (hM : Met l y ws { frames := fr, cells := 0, slots := 0, locals := lo } (va_Pc As nX) (vp_Si post) 0 0 (fun _ => False)) (cw : va_CN R s args own index y host bytes maxL ret ws { frames := fr, cells := 0, slots := 0, locals := lo } 0 0 n ∧ (Cond.static y).before args s = true ∧ True) (hn : As.length = n) (hsz : ls.size = nL) {st : List Value} (hst : st = As.reverse ++ rest) (hW : 2 * (F0 m pc ls st).monitorRoom + (rest.map fun v => v.category).sum ≤ 8) (hdg : decode cc0 pc = .ok (.invokestatic index, 3)) (hf : cells + 0 ≤ R.cells ∧ slots + 0 ≤ R.slots) (kk : ∀ r : Int32, post r → W p l e R s m args below meth c H locs cells slots Q (F0 m (pc + 3) ls (.int r :: rest))) : W p l e R s m args below meth c H locs cells slots Q (F0 m pc ls st) :=
  vp_callSi (va_Run.run (va_runSN F hM cw ⟨fun a U g mk q => ⟨q.1, nX.moved U (U.calling g mk a) (State.WarmedH.refl U) q.2⟩, fun U hU hW => ⟨rfl, nX.moved s U hW hN⟩⟩ rfl hn hsz hst hW hdg hf)) kk
theorem q_stl {p : Program} {l : Launch} {e : Env} {R : Room} {s : State} {m : MethodId} {args : Array Value} {below : List Frame} {meth : Method} {c : Code} {H : Heap} {locs : List Loc} {cells slots : Nat} {Q : State → Prop} {cc0 : ByteArray} {pc : Nat} {ls : Array Slot} {rest : List Value} {Ts : List Cond} {own : String} {y : MethodName} {bytes : ByteArray} {maxL nL n index fr lo : Nat} {ret : Option FieldType} {ws : List Cond} {As : List Value} {post : Int64 → Prop} (F : CallFix p m c cc0 nL s args Ts own) (hN : nX s) (hM : Met l y ws { frames := fr, cells := 0, slots := 0, locals := lo } (va_Pc As nX) (vp_Sl post) 0 0 (fun _ => False)) (cw : CallB R s args own index y bytes maxL ret ws { frames := fr, cells := 0, slots := 0, locals := lo } 0 0 n ∧ (Cond.static y).before args s = true) (hn : As.length = n) (hsz : ls.size = nL) {st : List Value} (hst : st = As.reverse ++ rest) (hW : 2 * (F0 m pc ls st).monitorRoom + (rest.map fun v => v.category).sum ≤ 8) (hdg : decode cc0 pc = .ok (.invokestatic index, 3)) (hf : cells + 0 ≤ R.cells ∧ slots + 0 ≤ R.slots) (kk : ∀ r : Int64, post r → W p l e R s m args below meth c H locs cells slots Q (F0 m (pc + 3) ls (.long r :: rest))) : W p l e R s m args below meth c H locs cells slots Q (F0 m pc ls st) :=
  vp_callSl (W.runS F hM cw ⟨fun a U g mk q => ⟨q.1, nX.moved U (U.calling g mk a) (State.WarmedH.refl U) q.2⟩, fun U hU hW => ⟨rfl, nX.moved s U hW hN⟩⟩ rfl hn hsz hst hW hdg hf) kk
theorem q_stlN {p : Program} {l : Launch} {e : Env} {R : Room} {s : State} {m : MethodId} {args : Array Value} {below : List Frame} {meth : Method} {c : Code} {H : Heap} {locs : List Loc} {cells slots : Nat} {Q : State → Prop} {cc0 : ByteArray} {pc : Nat} {ls : Array Slot} {rest : List Value} {Ts : List Cond} {own host : String} {y : MethodName} {bytes : ByteArray} {maxL nL n index fr lo : Nat} {ret : Option FieldType} {ws : List Cond} {As : List Value} {post : Int64 → Prop} (F : CallFix p m c cc0 nL s args Ts own) (hN : nX s) (hM : Met l y ws { frames := fr, cells := 0, slots := 0, locals := lo } (va_Pc As nX) (vp_Sl post) 0 0 (fun _ => False)) (cw : va_CN R s args own index y host bytes maxL ret ws { frames := fr, cells := 0, slots := 0, locals := lo } 0 0 n ∧ (Cond.static y).before args s = true ∧ True) (hn : As.length = n) (hsz : ls.size = nL) {st : List Value} (hst : st = As.reverse ++ rest) (hW : 2 * (F0 m pc ls st).monitorRoom + (rest.map fun v => v.category).sum ≤ 8) (hdg : decode cc0 pc = .ok (.invokestatic index, 3)) (hf : cells + 0 ≤ R.cells ∧ slots + 0 ≤ R.slots) (kk : ∀ r : Int64, post r → W p l e R s m args below meth c H locs cells slots Q (F0 m (pc + 3) ls (.long r :: rest))) : W p l e R s m args below meth c H locs cells slots Q (F0 m pc ls st) :=
  vp_callSl (va_Run.run (va_runSN F hM cw ⟨fun a U g mk q => ⟨q.1, nX.moved U (U.calling g mk a) (State.WarmedH.refl U) q.2⟩, fun U hU hW => ⟨rfl, nX.moved s U hW hN⟩⟩ rfl hn hsz hst hW hdg hf)) kk
abbrev kCiX (l : Launch) (y : MethodName) (ws : List Cond) (fr lo : Nat) (cI cJ cZ cMic cSrc cSt cAI cAJ : ClassId) (D : va_G) (ad : Nat → Nat) (T : AT) (As : List Value) (X : Nat → State → Prop) (post : Int32 → AT → Prop) : Prop := ∀ sz : Nat, Met l y ws { frames := fr, cells := 0, slots := 0, locals := lo } (va_Pc As (fun U => kB cI cJ cZ cMic cSrc cSt cAI cAJ D ad T sz U ∧ X sz U)) (va_Qi post (kAt cI cJ cZ cMic cSrc cSt cAI cAJ D ad (va_A (cW ad T.1 (cc cI cJ cZ cMic cSrc cSt cAI cAJ ad T)) sz)) (va_A (cW ad T.1 (cc cI cJ cZ cMic cSrc cSt cAI cAJ ad T)) sz)) 0 0 (va_A (cW ad T.1 (cc cI cJ cZ cMic cSrc cSt cAI cAJ ad T)) sz)
abbrev kCvX (l : Launch) (y : MethodName) (ws : List Cond) (fr lo : Nat) (cI cJ cZ cMic cSrc cSt cAI cAJ : ClassId) (D : va_G) (ad : Nat → Nat) (T : AT) (As : List Value) (X : Nat → State → Prop) (post : AT → Prop) : Prop := ∀ sz : Nat, Met l y ws { frames := fr, cells := 0, slots := 0, locals := lo } (va_Pc As (fun U => kB cI cJ cZ cMic cSrc cSt cAI cAJ D ad T sz U ∧ X sz U)) (va_Qv post (kAt cI cJ cZ cMic cSrc cSt cAI cAJ D ad (va_A (cW ad T.1 (cc cI cJ cZ cMic cSrc cSt cAI cAJ ad T)) sz)) (va_A (cW ad T.1 (cc cI cJ cZ cMic cSrc cSt cAI cAJ ad T)) sz)) 0 0 (va_A (cW ad T.1 (cc cI cJ cZ cMic cSrc cSt cAI cAJ ad T)) sz)
abbrev kXiX (l : Launch) (y : MethodName) (ws : List Cond) (fr lo : Nat) (cI cJ cZ cMic cSrc cSt cAI cAJ : ClassId) (D : va_G) (ad : Nat → Nat) (T : AT) (As : List Value) (X : Nat → State → Prop) (e1 : Nat) (T1 : AT) : Prop := ∀ sz : Nat, vx_Met l y ws { frames := fr, cells := 1, slots := 6, locals := lo } (va_Pc As (fun U => kB cI cJ cZ cMic cSrc cSt cAI cAJ D ad T sz U ∧ X sz U)) (va_Qi (fun (_ : Int32) (_ : AT) => False) (kAt cI cJ cZ cMic cSrc cSt cAI cAJ D ad (va_A (cW ad T.1 (cc cI cJ cZ cMic cSrc cSt cAI cAJ ad T)) sz)) (va_A (cW ad T.1 (cc cI cJ cZ cMic cSrc cSt cAI cAJ ad T)) sz)) (vx_X (fun _ => True) (fun E u t => (E = exn e1 ∧ u = T1) ∧ kAt cI cJ cZ cMic cSrc cSt cAI cAJ D ad (va_A (cW ad T.1 (cc cI cJ cZ cMic cSrc cSt cAI cAJ ad T)) sz) u t) (va_A (cW ad T.1 (cc cI cJ cZ cMic cSrc cSt cAI cAJ ad T)) sz)) 1 6 (va_A (cW ad T.1 (cc cI cJ cZ cMic cSrc cSt cAI cAJ ad T)) sz)
abbrev kXvX (l : Launch) (y : MethodName) (ws : List Cond) (fr lo : Nat) (cI cJ cZ cMic cSrc cSt cAI cAJ : ClassId) (D : va_G) (ad : Nat → Nat) (T : AT) (As : List Value) (X : Nat → State → Prop) (e1 : Nat) (T1 : AT) : Prop := ∀ sz : Nat, vx_Met l y ws { frames := fr, cells := 1, slots := 6, locals := lo } (va_Pc As (fun U => kB cI cJ cZ cMic cSrc cSt cAI cAJ D ad T sz U ∧ X sz U)) (va_Qv (fun (_ : AT) => False) (kAt cI cJ cZ cMic cSrc cSt cAI cAJ D ad (va_A (cW ad T.1 (cc cI cJ cZ cMic cSrc cSt cAI cAJ ad T)) sz)) (va_A (cW ad T.1 (cc cI cJ cZ cMic cSrc cSt cAI cAJ ad T)) sz)) (vx_X (fun _ => True) (fun E u t => (E = exn e1 ∧ u = T1) ∧ kAt cI cJ cZ cMic cSrc cSt cAI cAJ D ad (va_A (cW ad T.1 (cc cI cJ cZ cMic cSrc cSt cAI cAJ ad T)) sz) u t) (va_A (cW ad T.1 (cc cI cJ cZ cMic cSrc cSt cAI cAJ ad T)) sz)) 1 6 (va_A (cW ad T.1 (cc cI cJ cZ cMic cSrc cSt cAI cAJ ad T)) sz)
abbrev kAiS (l : Launch) (y : MethodName) (ws : List Cond) (fr lo : Nat) (cI cJ cZ cMic cSrc cSt cAI cAJ : ClassId) (D : va_G) (ad : Nat → Nat) (T : AT) (As : List Value) (X : Nat → State → Prop) (r1 : Int32) (T1 : AT) : Prop := ∀ sz : Nat, Met l y ws { frames := fr, cells := T1.1 - T.1, slots := sg T1 - sg T, locals := lo } (va_Pc As (fun U => kB cI cJ cZ cMic cSrc cSt cAI cAJ D ad T sz U ∧ X sz U)) (va_Qi (fun r (u : AT × (Nat → Nat)) => r = r1 ∧ u.1 = T1 ∧ ∀ n, n < T.1 → u.2 n = ad n) (fun (u : AT × (Nat → Nat)) t => kAt cI cJ cZ cMic cSrc cSt cAI cAJ D u.2 (va_A (cW ad T.1 (cc cI cJ cZ cMic cSrc cSt cAI cAJ ad T)) sz) u.1 t) (va_A (cW ad T.1 (cc cI cJ cZ cMic cSrc cSt cAI cAJ ad T)) sz)) (T1.1 - T.1) (sg T1 - sg T) (va_A (cW ad T.1 (cc cI cJ cZ cMic cSrc cSt cAI cAJ ad T)) sz)
abbrev kAXiS (l : Launch) (y : MethodName) (ws : List Cond) (fr lo : Nat) (cI cJ cZ cMic cSrc cSt cAI cAJ : ClassId) (D : va_G) (ad : Nat → Nat) (T : AT) (As : List Value) (X : Nat → State → Prop) (e1 : Nat) (T1 : AT) : Prop := ∀ sz : Nat, vx_Met l y ws { frames := fr, cells := T1.1 - T.1 + 1, slots := sg T1 - sg T + 6, locals := lo } (va_Pc As (fun U => kB cI cJ cZ cMic cSrc cSt cAI cAJ D ad T sz U ∧ X sz U)) (va_Qi (fun (_ : Int32) (_ : AT × (Nat → Nat)) => False) (fun (u : AT × (Nat → Nat)) t => kAt cI cJ cZ cMic cSrc cSt cAI cAJ D u.2 (va_A (cW ad T.1 (cc cI cJ cZ cMic cSrc cSt cAI cAJ ad T)) sz) u.1 t) (va_A (cW ad T.1 (cc cI cJ cZ cMic cSrc cSt cAI cAJ ad T)) sz)) (vx_X (fun _ => True) (fun E (u : AT × (Nat → Nat)) t => (E = exn e1 ∧ u.1 = T1 ∧ ∀ n, n < T.1 → u.2 n = ad n) ∧ kAt cI cJ cZ cMic cSrc cSt cAI cAJ D u.2 (va_A (cW ad T.1 (cc cI cJ cZ cMic cSrc cSt cAI cAJ ad T)) sz) u.1 t) (va_A (cW ad T.1 (cc cI cJ cZ cMic cSrc cSt cAI cAJ ad T)) sz)) (T1.1 - T.1 + 1) (sg T1 - sg T + 6) (va_A (cW ad T.1 (cc cI cJ cZ cMic cSrc cSt cAI cAJ ad T)) sz)
theorem q_cviX {p : Program} {l : Launch} {e : Env} {R : Room} {s : State} {m : MethodId} {args : Array Value} {below : List Frame} {meth : Method} {c : Code} {H : Heap} {locs : List Loc} {cells slots : Nat} {Q : State → Prop} {cc0 : ByteArray} {pc : Nat} {ls : Array Slot} {rest : List Value} {D : va_G} {A : Nat → Prop} {Ts : List Cond} {own : String} {cI cJ cZ cMic cSrc cSt cAI cAJ : ClassId} {ad : Nat → Nat} {T : AT} {y : MethodName} {bytes : ByteArray} {maxL nL n index fr lo : Nat} {ret : Option FieldType} {ws : List Cond} {As : List Value} {C : String} {TT : u_T} {nf ci q : Nat} {fs : List Value} {post : Int32 → AT → Prop} {X : Nat → State → Prop} (E : cE p c cc0 s m args Ts D own (CT cI cJ cZ cMic cSrc cSt cAI cAJ)) (G : gC cI cJ cZ cMic cSrc cSt cAI cAJ D ad A s.heap H locs T) (hA : ∀ q, s.heap.size ≤ q → A q) (hX : xT A s) (hN : nX s) (hml : c.maxLocals = nL) (hM : kCiX l y ws fr lo cI cJ cZ cMic cSrc cSt cAI cAJ D ad T (.ref (ad q) :: As) X post) (cw : CallW R s args own C index y bytes maxL ret ws { frames := fr, cells := 0, slots := 0, locals := lo } 0 0 n) (hq : q < T.1) (hSq : cc cI cJ cZ cMic cSrc cSt cAI cAJ ad T q = .inr (ci, fs)) (hc : vwCl[ci]? = some (C, TT, nf)) (hn : As.length = n) (hsz : ls.size = nL) {st : List Value} (hst : st = As.reverse ++ .ref (ad q) :: rest) (hW : 2 * (F0 m pc ls st).monitorRoom + (rest.map fun v => v.category).sum ≤ 8) (hdg : decode cc0 pc = .ok (.invokevirtual index, 3)) (hf : cells + 0 ≤ R.cells ∧ slots + 0 ≤ R.slots) (hXb : ∀ (sz : Nat) (a : Array Value) (U : State) (g : JFrame) (mk : MethodId), X sz U → X sz (U.calling g mk a)) (hXp : ∀ U : State, U.heap = H → s.WarmedH U.vm → X H.size U) (kk : ∀ (r : Int32) (T1 : AT) (H1 : Heap) (locs1 : List Loc), post r T1 → gC cI cJ cZ cMic cSrc cSt cAI cAJ D ad A s.heap H1 locs1 T1 → W p l e R s m args below meth c H1 locs1 (cells + 0) (slots + 0) Q (F0 m (pc + 3) ls (.int r :: rest))) : W p l e R s m args below meth c H locs cells slots Q (F0 m pc ls st) := by
  obtain ⟨hx, hb, hts, hown, hK⟩ := E
  obtain ⟨hP, hD, hS⟩ := G
  have hFc := va_free (wc := cW ad T.1 (cc cI cJ cZ cMic cSrc cSt cAI cAJ ad T)) hD hS hA (List.range T.1) (cW_all ad T.1 (cc cI cJ cZ cMic cSrc cSt cAI cAJ ad T))
  refine va_calli (va_runV (As := As) (rest := rest) ⟨hx, hb, hml, hown, hts⟩ (hM H.size) cw ⟨fun a U g mk q => by obtain ⟨q0, ⟨q1, qP, qK, qD, qX, qN⟩, qY⟩ := q; exact ⟨q0, ⟨q1, qP, va_K.moved (u := U) (U := U.calling g mk a) (Vm.Alike.refl U.vm) qK, qD, qX.blind, nX.moved U (U.calling g mk a) (State.WarmedH.refl U) qN⟩, hXb _ _ _ _ _ qY⟩, va_recv hK hP (ci := ci) (q0 := q) hc (cW_e hq hSq), fun U hU hW => ⟨rfl, ⟨by rw [hU], by rw [hU]; exact hP, va_K.moved hW.alike hK, hD.weaken (fun _ _ _ _ => trivial), hX.go hW hU hS hFc, nX.moved s U hW hN⟩, hXp U hU hW⟩⟩ rfl hn hsz hst hW hdg hf) hS (fun q _ h => hFc q h) hFc (fun r u t H1 locs1 ht hvm hw hB hz1 hk1 hS => ?_)
  obtain ⟨hP1, hK1, hD1⟩ := hB
  rw [ht] at hP1
  obtain ⟨hP2, hD2⟩ := va_join (wr := []) (w1 := cW ad u.1 (cc cI cJ cZ cMic cSrc cSt cAI cAJ ad u)) hP hD (List.range T.1) [] (cW_all ad T.1 (cc cI cJ cZ cMic cSrc cSt cAI cAJ ad T)) rfl rfl (fun i hi => absurd hi List.not_mem_nil) hk1 hFc hP1 hD1
  exact kk r u H1 locs1 hw ⟨hP2, hD2, hS⟩
theorem q_cvvX {p : Program} {l : Launch} {e : Env} {R : Room} {s : State} {m : MethodId} {args : Array Value} {below : List Frame} {meth : Method} {c : Code} {H : Heap} {locs : List Loc} {cells slots : Nat} {Q : State → Prop} {cc0 : ByteArray} {pc : Nat} {ls : Array Slot} {rest : List Value} {D : va_G} {A : Nat → Prop} {Ts : List Cond} {own : String} {cI cJ cZ cMic cSrc cSt cAI cAJ : ClassId} {ad : Nat → Nat} {T : AT} {y : MethodName} {bytes : ByteArray} {maxL nL n index fr lo : Nat} {ret : Option FieldType} {ws : List Cond} {As : List Value} {C : String} {TT : u_T} {nf ci q : Nat} {fs : List Value} {post : AT → Prop} {X : Nat → State → Prop} (E : cE p c cc0 s m args Ts D own (CT cI cJ cZ cMic cSrc cSt cAI cAJ)) (G : gC cI cJ cZ cMic cSrc cSt cAI cAJ D ad A s.heap H locs T) (hA : ∀ q, s.heap.size ≤ q → A q) (hX : xT A s) (hN : nX s) (hml : c.maxLocals = nL) (hM : kCvX l y ws fr lo cI cJ cZ cMic cSrc cSt cAI cAJ D ad T (.ref (ad q) :: As) X post) (cw : CallW R s args own C index y bytes maxL ret ws { frames := fr, cells := 0, slots := 0, locals := lo } 0 0 n) (hq : q < T.1) (hSq : cc cI cJ cZ cMic cSrc cSt cAI cAJ ad T q = .inr (ci, fs)) (hc : vwCl[ci]? = some (C, TT, nf)) (hn : As.length = n) (hsz : ls.size = nL) {st : List Value} (hst : st = As.reverse ++ .ref (ad q) :: rest) (hW : 2 * (F0 m pc ls st).monitorRoom + (rest.map fun v => v.category).sum ≤ 8) (hdg : decode cc0 pc = .ok (.invokevirtual index, 3)) (hf : cells + 0 ≤ R.cells ∧ slots + 0 ≤ R.slots) (hXb : ∀ (sz : Nat) (a : Array Value) (U : State) (g : JFrame) (mk : MethodId), X sz U → X sz (U.calling g mk a)) (hXp : ∀ U : State, U.heap = H → s.WarmedH U.vm → X H.size U) (kk : ∀ (T1 : AT) (H1 : Heap) (locs1 : List Loc), post T1 → gC cI cJ cZ cMic cSrc cSt cAI cAJ D ad A s.heap H1 locs1 T1 → W p l e R s m args below meth c H1 locs1 (cells + 0) (slots + 0) Q (F0 m (pc + 3) ls rest)) : W p l e R s m args below meth c H locs cells slots Q (F0 m pc ls st) := by
  obtain ⟨hx, hb, hts, hown, hK⟩ := E
  obtain ⟨hP, hD, hS⟩ := G
  have hFc := va_free (wc := cW ad T.1 (cc cI cJ cZ cMic cSrc cSt cAI cAJ ad T)) hD hS hA (List.range T.1) (cW_all ad T.1 (cc cI cJ cZ cMic cSrc cSt cAI cAJ ad T))
  refine va_callv (va_runV (As := As) (rest := rest) ⟨hx, hb, hml, hown, hts⟩ (hM H.size) cw ⟨fun a U g mk q => by obtain ⟨q0, ⟨q1, qP, qK, qD, qX, qN⟩, qY⟩ := q; exact ⟨q0, ⟨q1, qP, va_K.moved (u := U) (U := U.calling g mk a) (Vm.Alike.refl U.vm) qK, qD, qX.blind, nX.moved U (U.calling g mk a) (State.WarmedH.refl U) qN⟩, hXb _ _ _ _ _ qY⟩, va_recv hK hP (ci := ci) (q0 := q) hc (cW_e hq hSq), fun U hU hW => ⟨rfl, ⟨by rw [hU], by rw [hU]; exact hP, va_K.moved hW.alike hK, hD.weaken (fun _ _ _ _ => trivial), hX.go hW hU hS hFc, nX.moved s U hW hN⟩, hXp U hU hW⟩⟩ rfl hn hsz hst hW hdg hf) hS (fun q _ h => hFc q h) hFc (fun u t H1 locs1 ht hvm hw hB hz1 hk1 hS => ?_)
  obtain ⟨hP1, hK1, hD1⟩ := hB
  rw [ht] at hP1
  obtain ⟨hP2, hD2⟩ := va_join (wr := []) (w1 := cW ad u.1 (cc cI cJ cZ cMic cSrc cSt cAI cAJ ad u)) hP hD (List.range T.1) [] (cW_all ad T.1 (cc cI cJ cZ cMic cSrc cSt cAI cAJ ad T)) rfl rfl (fun i hi => absurd hi List.not_mem_nil) hk1 hFc hP1 hD1
  exact kk u H1 locs1 hw ⟨hP2, hD2, hS⟩
theorem q_xviX {p : Program} {l : Launch} {e : Env} {R : Room} {s : State} {m : MethodId} {args : Array Value} {below : List Frame} {meth : Method} {c : Code} {H : Heap} {locs : List Loc} {cells slots : Nat} {Q : State → Prop} {cc0 : ByteArray} {pc : Nat} {ls : Array Slot} {rest : List Value} {D : va_G} {A : Nat → Prop} {Ts : List Cond} {own : String} {cI cJ cZ cMic cSrc cSt cAI cAJ : ClassId} {ad : Nat → Nat} {T : AT} {y : MethodName} {bytes : ByteArray} {maxL nL n index fr lo : Nat} {ret : Option FieldType} {ws : List Cond} {As : List Value} {C : String} {TT : u_T} {nf ci q : Nat} {fs : List Value} {e1 : Nat} {T1 : AT} {X : Nat → State → Prop} (E : cE p c cc0 s m args Ts D own (CT cI cJ cZ cMic cSrc cSt cAI cAJ)) (G : gC cI cJ cZ cMic cSrc cSt cAI cAJ D ad A s.heap H locs T) (hA : ∀ q, s.heap.size ≤ q → A q) (hX : xT A s) (hN : nX s) (hml : c.maxLocals = nL) (hM : kXiX l y ws fr lo cI cJ cZ cMic cSrc cSt cAI cAJ D ad T (.ref (ad q) :: As) X e1 T1) (cw : CallW R s args own C index y bytes maxL ret ws { frames := fr, cells := 1, slots := 6, locals := lo } 1 6 n) (hq : q < T.1) (hSq : cc cI cJ cZ cMic cSrc cSt cAI cAJ ad T q = .inr (ci, fs)) (hc : vwCl[ci]? = some (C, TT, nf)) (hn : As.length = n) (hsz : ls.size = nL) {st : List Value} (hst : st = As.reverse ++ .ref (ad q) :: rest) (hW : 2 * (F0 m pc ls st).monitorRoom + (rest.map fun v => v.category).sum ≤ 8) (hdg : decode cc0 pc = .ok (.invokevirtual index, 3)) (hf : cells + 1 ≤ R.cells ∧ slots + 6 ≤ R.slots) (hXb : ∀ (sz : Nat) (a : Array Value) (U : State) (g : JFrame) (mk : MethodId), X sz U → X sz (U.calling g mk a)) (hXp : ∀ U : State, U.heap = H → s.WarmedH U.vm → X H.size U) (kx : ∀ (E9 : String) (ce : Cell) (q9 : Addr) (T9 : AT) (H1 : Heap) (locs1 : List Loc), E9 = exn e1 ∧ T9 = T1 → gC cI cJ cZ cMic cSrc cSt cAI cAJ D ad A s.heap H1 locs1 T9 → H1[q9]? = some ce → ce.vm = .none → s.vm.findClass E9 = some ce.cls → vx_W p l e R s m args below meth c H1 locs1 (cells + 1) (slots + 6) Q (F0 m pc ls rest) q9) : W p l e R s m args below meth c H locs cells slots Q (F0 m pc ls st) := by
  obtain ⟨hx, hb, hts, hown, hK⟩ := E
  obtain ⟨hP, hD, hS⟩ := G
  have hFc := va_free (wc := cW ad T.1 (cc cI cJ cZ cMic cSrc cSt cAI cAJ ad T)) hD hS hA (List.range T.1) (cW_all ad T.1 (cc cI cJ cZ cMic cSrc cSt cAI cAJ ad T))
  refine vx_calli (vx_runV (As := As) (rest := rest) ⟨hx, hb, hml, hown, hts⟩ (hM H.size) cw ⟨fun a U g mk q => by obtain ⟨q0, ⟨q1, qP, qK, qD, qX, qN⟩, qY⟩ := q; exact ⟨q0, ⟨q1, qP, va_K.moved (u := U) (U := U.calling g mk a) (Vm.Alike.refl U.vm) qK, qD, qX.blind, nX.moved U (U.calling g mk a) (State.WarmedH.refl U) qN⟩, hXb _ _ _ _ _ qY⟩, va_recv hK hP (ci := ci) (q0 := q) hc (cW_e hq hSq), fun U hU hW => ⟨rfl, ⟨by rw [hU], by rw [hU]; exact hP, va_K.moved hW.alike hK, hD.weaken (fun _ _ _ _ => trivial), hX.go hW hU hS hFc, nX.moved s U hW hN⟩, hXp U hU hW⟩⟩ rfl hn hsz hst hW hdg hf) hS (fun q _ h => hFc q h) hFc (fun q _ h => hFc q h) (fun E9 ce q9 u t H1 locs1 ht hvm _ hB hz1 hk1 hS hce hcv hcl => ?_) (fun r u t H1 locs1 ht hvm hw hB hz1 hk1 hS => hw.elim)
  obtain ⟨hpx, hP1, hK1, hD1⟩ := hB
  rw [ht] at hP1
  obtain ⟨hP2, hD2⟩ := va_join (wr := []) (w1 := cW ad u.1 (cc cI cJ cZ cMic cSrc cSt cAI cAJ ad u)) hP hD (List.range T.1) [] (cW_all ad T.1 (cc cI cJ cZ cMic cSrc cSt cAI cAJ ad T)) rfl rfl (fun i hi => absurd hi List.not_mem_nil) hk1 hFc hP1 hD1
  exact kx E9 ce q9 u H1 locs1 hpx ⟨hP2, hD2, hS⟩ hce hcv hcl
theorem q_xvvX {p : Program} {l : Launch} {e : Env} {R : Room} {s : State} {m : MethodId} {args : Array Value} {below : List Frame} {meth : Method} {c : Code} {H : Heap} {locs : List Loc} {cells slots : Nat} {Q : State → Prop} {cc0 : ByteArray} {pc : Nat} {ls : Array Slot} {rest : List Value} {D : va_G} {A : Nat → Prop} {Ts : List Cond} {own : String} {cI cJ cZ cMic cSrc cSt cAI cAJ : ClassId} {ad : Nat → Nat} {T : AT} {y : MethodName} {bytes : ByteArray} {maxL nL n index fr lo : Nat} {ret : Option FieldType} {ws : List Cond} {As : List Value} {C : String} {TT : u_T} {nf ci q : Nat} {fs : List Value} {e1 : Nat} {T1 : AT} {X : Nat → State → Prop} (E : cE p c cc0 s m args Ts D own (CT cI cJ cZ cMic cSrc cSt cAI cAJ)) (G : gC cI cJ cZ cMic cSrc cSt cAI cAJ D ad A s.heap H locs T) (hA : ∀ q, s.heap.size ≤ q → A q) (hX : xT A s) (hN : nX s) (hml : c.maxLocals = nL) (hM : kXvX l y ws fr lo cI cJ cZ cMic cSrc cSt cAI cAJ D ad T (.ref (ad q) :: As) X e1 T1) (cw : CallW R s args own C index y bytes maxL ret ws { frames := fr, cells := 1, slots := 6, locals := lo } 1 6 n) (hq : q < T.1) (hSq : cc cI cJ cZ cMic cSrc cSt cAI cAJ ad T q = .inr (ci, fs)) (hc : vwCl[ci]? = some (C, TT, nf)) (hn : As.length = n) (hsz : ls.size = nL) {st : List Value} (hst : st = As.reverse ++ .ref (ad q) :: rest) (hW : 2 * (F0 m pc ls st).monitorRoom + (rest.map fun v => v.category).sum ≤ 8) (hdg : decode cc0 pc = .ok (.invokevirtual index, 3)) (hf : cells + 1 ≤ R.cells ∧ slots + 6 ≤ R.slots) (hXb : ∀ (sz : Nat) (a : Array Value) (U : State) (g : JFrame) (mk : MethodId), X sz U → X sz (U.calling g mk a)) (hXp : ∀ U : State, U.heap = H → s.WarmedH U.vm → X H.size U) (kx : ∀ (E9 : String) (ce : Cell) (q9 : Addr) (T9 : AT) (H1 : Heap) (locs1 : List Loc), E9 = exn e1 ∧ T9 = T1 → gC cI cJ cZ cMic cSrc cSt cAI cAJ D ad A s.heap H1 locs1 T9 → H1[q9]? = some ce → ce.vm = .none → s.vm.findClass E9 = some ce.cls → vx_W p l e R s m args below meth c H1 locs1 (cells + 1) (slots + 6) Q (F0 m pc ls rest) q9) : W p l e R s m args below meth c H locs cells slots Q (F0 m pc ls st) := by
  obtain ⟨hx, hb, hts, hown, hK⟩ := E
  obtain ⟨hP, hD, hS⟩ := G
  have hFc := va_free (wc := cW ad T.1 (cc cI cJ cZ cMic cSrc cSt cAI cAJ ad T)) hD hS hA (List.range T.1) (cW_all ad T.1 (cc cI cJ cZ cMic cSrc cSt cAI cAJ ad T))
  refine vx_callv (vx_runV (As := As) (rest := rest) ⟨hx, hb, hml, hown, hts⟩ (hM H.size) cw ⟨fun a U g mk q => by obtain ⟨q0, ⟨q1, qP, qK, qD, qX, qN⟩, qY⟩ := q; exact ⟨q0, ⟨q1, qP, va_K.moved (u := U) (U := U.calling g mk a) (Vm.Alike.refl U.vm) qK, qD, qX.blind, nX.moved U (U.calling g mk a) (State.WarmedH.refl U) qN⟩, hXb _ _ _ _ _ qY⟩, va_recv hK hP (ci := ci) (q0 := q) hc (cW_e hq hSq), fun U hU hW => ⟨rfl, ⟨by rw [hU], by rw [hU]; exact hP, va_K.moved hW.alike hK, hD.weaken (fun _ _ _ _ => trivial), hX.go hW hU hS hFc, nX.moved s U hW hN⟩, hXp U hU hW⟩⟩ rfl hn hsz hst hW hdg hf) hS (fun q _ h => hFc q h) hFc (fun q _ h => hFc q h) (fun E9 ce q9 u t H1 locs1 ht hvm _ hB hz1 hk1 hS hce hcv hcl => ?_) (fun u t H1 locs1 ht hvm hw hB hz1 hk1 hS => hw.elim)
  obtain ⟨hpx, hP1, hK1, hD1⟩ := hB
  rw [ht] at hP1
  obtain ⟨hP2, hD2⟩ := va_join (wr := []) (w1 := cW ad u.1 (cc cI cJ cZ cMic cSrc cSt cAI cAJ ad u)) hP hD (List.range T.1) [] (cW_all ad T.1 (cc cI cJ cZ cMic cSrc cSt cAI cAJ ad T)) rfl rfl (fun i hi => absurd hi List.not_mem_nil) hk1 hFc hP1 hD1
  exact kx E9 ce q9 u H1 locs1 hpx ⟨hP2, hD2, hS⟩ hce hcv hcl
def yT0 (cI cJ cZ cMic cSrc cSt cAI cAJ : ClassId) (h0 : Nat) (ad : Nat → Nat) (T : AT) (sz : Nat) (U : State) : Prop := (∀ a, va_A (cW ad T.1 (cc cI cJ cZ cMic cSrc cSt cAI cAJ ad T)) sz a → h0 ≤ a) ∧ sAll h0 U
def yT1 (cI cJ cZ cMic cSrc cSt cAI cAJ : ClassId) (h0 : Nat) (ad : Nat → Nat) (T : AT) (tx : Nat × (Nat → Int32)) (q sz : Nat) (U : State) : Prop := yT0 cI cJ cZ cMic cSrc cSt cAI cAJ h0 ad T sz U ∧ sO tx q (fun a => h0 ≤ a) U U.heap
theorem yT0.blind {cI cJ cZ cMic cSrc cSt cAI cAJ : ClassId} {ad : Nat → Nat} {h0 : Nat} {T : AT} (sz : Nat) (a : Array Value) (U : State) (g : JFrame) (mk : MethodId) (h : yT0 cI cJ cZ cMic cSrc cSt cAI cAJ h0 ad T sz U) : yT0 cI cJ cZ cMic cSrc cSt cAI cAJ h0 ad T sz (U.calling g mk a) := ⟨h.1, h.2.blind⟩
theorem yT1.blind {cI cJ cZ cMic cSrc cSt cAI cAJ : ClassId} {ad : Nat → Nat} {h0 : Nat} {T : AT} {tx : Nat × (Nat → Int32)} {q : Nat} (sz : Nat) (a : Array Value) (U : State) (g : JFrame) (mk : MethodId) (h : yT1 cI cJ cZ cMic cSrc cSt cAI cAJ h0 ad T tx q sz U) : yT1 cI cJ cZ cMic cSrc cSt cAI cAJ h0 ad T tx q sz (U.calling g mk a) := ⟨⟨h.1.1, h.1.2.blind⟩, sO.moved (u := U) (U := U.calling g mk a) (Vm.Alike.refl U.vm) h.2⟩
theorem yT0.go {D : va_G} {cI cJ cZ cMic cSrc cSt cAI cAJ : ClassId} {ad : Nat → Nat} {h0 : Nat} {T : AT} {A : Nat → Prop} {s : State} {H : Heap} {locs : List Loc} (hT : sAll h0 s) (hA0 : ∀ a : Nat, A a → h0 ≤ a) (hA : ∀ q : Nat, s.heap.size ≤ q → A q) (G : gC cI cJ cZ cMic cSrc cSt cAI cAJ D ad A s.heap H locs T) (U : State) (hU : U.heap = H) (hW : s.WarmedH U.vm) : yT0 cI cJ cZ cMic cSrc cSt cAI cAJ h0 ad T H.size U :=
  ⟨fun a h => hA0 a (va_free (wc := cW ad T.1 (cc cI cJ cZ cMic cSrc cSt cAI cAJ ad T)) G.2.1 G.2.2 hA (List.range T.1) (cW_all ad T.1 (cc cI cJ cZ cMic cSrc cSt cAI cAJ ad T)) a h), hT.moved hA0 G.2.2 hU hW⟩
theorem yT1.go {D : va_G} {cI cJ cZ cMic cSrc cSt cAI cAJ : ClassId} {ad : Nat → Nat} {h0 : Nat} {T : AT} {A : Nat → Prop} {s : State} {H : Heap} {locs : List Loc} {tx : Nat × (Nat → Int32)} {q : Nat} (hT : sAll h0 s) (hA0 : ∀ a : Nat, A a → h0 ≤ a) (hA : ∀ q : Nat, s.heap.size ≤ q → A q) (G : gC cI cJ cZ cMic cSrc cSt cAI cAJ D ad A s.heap H locs T) (hO : sO tx q (fun a => h0 ≤ a) s s.heap) (U : State) (hU : U.heap = H) (hW : s.WarmedH U.vm) : yT1 cI cJ cZ cMic cSrc cSt cAI cAJ h0 ad T tx q H.size U :=
  ⟨yT0.go hT hA0 hA G U hU hW, by rw [hU]; exact sO.moved hW.alike (hO.kept (fun a h1 h2 => G.2.2.2.1 a h1 (fun h3 => h2 (hA0 a h3))))⟩
theorem va_alda {p : Program} {l : Launch} {e : Env} {R : Room} {s : State} {m : MethodId} {args : Array Value} {below : List Frame} {meth : Method} {c : Code} {H : Heap} {locs : List Loc} {cells slots : Nat} {Q : State → Prop} {cc0 : ByteArray} {pc : Nat} {ls : Array Slot} {rest : List Value} {D : va_G}   {a : Nat} {tys : List (ClassId × FieldType)} {ws : va_W} (hexec : p.tables.exec = Jvm.exec) (hb : c.code = cc0) (hK : va_K D vwCl tys s) (hP : va_P D vwCl ws H) (q0 t0 : Nat) {cA : ClassId} {ty : FieldType} {n : Nat} {f : Nat → Option Nat} (ha : ws[q0]? = some (a, .inl (cA, n, .inr (.inr (.inr (.inr f)))))) (ht : tys[t0]? = some (cA, .array ty)) {i : Int32} (hin : vp_in i n) (hdg : decode cc0 pc = .ok (.aaload, 1))
    (kk : W p l e R s m args below meth c H locs cells slots Q (F0 m (pc + 1) ls (va_rf (f i.toNatClampNeg) :: rest))) : W p l e R s m args below meth c H locs cells slots Q (F0 m pc ls (.int i :: .ref a :: rest)) := by
  have hlt : i.toNatClampNeg < n := Nat.not_le.mp fun q => hin (Or.inr q)
  exact W.aald (v := va_rf (f i.toNatClampNeg)) (ty := .array ty) hexec hb (hP q0 _ ha) ((hK.2 t0 _ ht).1 n (fun j => va_rf (f j))) rfl (fun q => by cases q) (by show ¬ (i < 0 ∨ (arrV _ _ _).slots.size ≤ _); rw [arrV_size]; exact hin) (by show (arrV _ _ _).slots[_]? = _; rw [arrV_read _ _ hlt]) rfl rfl hdg kk
theorem c_alda {N : Nat} {S : Nat → va_E} {tys : List (ClassId × FieldType)} {H0 : Heap} {ad : Nat → Nat} {p : Program} {l : Launch} {e : Env} {R : Room} {s : State} {m : MethodId} {args : Array Value} {below : List Frame} {meth : Method} {c : Code} {H : Heap} {locs : List Loc} {cells slots : Nat} {Q : State → Prop} {cc0 : ByteArray} {pc : Nat} {ls : Array Slot} {rest : List Value} {D : va_G} {A : Nat → Prop} {Ts : List Cond} {own : String}  (E : cE p c cc0 s m args Ts D own tys) (G : cG D ad N A H0 H locs S) (q t0 : Nat) {cA : ClassId} {ty : FieldType} {n k : Nat} {f : Nat → Option Nat} {i : Int32} {v : Value} (hq : q < N) (hS : S q = .inl (cA, n, .inr (.inr (.inr (.inr f))))) (ht : tys[t0]? = some (cA, .array ty)) (hi : i = nI k) (hk : k < n) (hn : n < 2 ^ 31) (hv : va_rf (f k) = v) (hdg : decode cc0 pc = .ok (.aaload, 1)) (kk : W p l e R s m args below meth c H locs cells slots Q (F0 m (pc + 1) ls (v :: rest))) : W p l e R s m args below meth c H locs cells slots Q (F0 m pc ls (.int i :: .ref (ad q) :: rest)) := by
  subst hi
  subst hv
  refine va_alda E.1 E.2.1 E.2.2.2.2 G.1 q t0 (cW_e hq hS) ht (vp_in_nI hk hn) hdg ?_
  rw [nI_clamp (Nat.lt_trans hk hn)]
  exact kk
end
section
/-! 11bb.ja.lean.txt -/
set_option maxHeartbeats 4000000 in
set_option maxRecDepth 100000 in
theorem ja_coder (l : Launch) {tx : Nat × (Nat → Int32)} {q : Nat} : Met l yJ0_coder_7d493 (Cond.code yJ0_coder_7d493 cJ0_coder_7d493 1 (some .byte) :: wsA) { frames := 1, cells := 0, slots := 0, locals := 0 } (va_Pc [.ref q] (sP tx q)) (vp_Si (fun r => r = 0)) 0 0 (fun _ => False) := by
  refine Met.ofW (cc := cJ0_coder_7d493) (maxL := 1) (ret := (some .byte)) (by decide) rfl ?_
  intro p e s m args below meth c s₁ B hml hv
  obtain ⟨rfl, hv⟩ := hv
  have hx := B.exec
  have hb := B.bytes
  have hr := B.returns
  have hts := atoms_spec (ws := (Cond.code yJ0_coder_7d493 cJ0_coder_7d493 1 (some .byte) :: wsA)) B.pre
  have hown : s.vm.findClass RJ0 = some m.cls := findClass_of_methodNamed B.named
  have hlocks := B.notSynchronized
  have hS : va_S (fun _ : Nat => False) s.heap s.heap [] := va_S.rf
  have hl := lv_entry ([.ref q]) (n := 1) (Nat.le_of_ble_eq_true rfl)
  rw [lg_entry_eq]
  generalize (lg_sl ([.ref q]) ++ List.replicate (1 - (lg_sl ([.ref q])).length) Slot.unset).toArray = ls at hl ⊢
  have hl : lv_has ls 1 [(0, .ref q)] := hl
  obtain ⟨⟨v, h1, h2, h3, h4⟩, h5, h6⟩ := hv
  refine va_gets (v := .int 1) hx hb h5 hS hown (hts _ (.tail _ qA_254)) (fun _ h => h) dJ0_coder_7d493_0 ?_
  refine lv_if_eq (tgt := 13) hx hb dJ0_coder_7d493_3 (by decide) (fun h => absurd h (by decide)) (fun _ => ?_)
  refine lv_aload_n hx hb dJ0_coder_7d493_6 rfl (lv_at hl 0 rfl) ?_
  refine vk_getf hx hb h2 hS hown (hts _ (.tail _ qA_255)) (fun _ h => h) dJ0_coder_7d493_7 ?_
  refine lv_goto (tgt := 14) hx hb dJ0_coder_7d493_10 (by decide) ?_
  exact W.zret (v := 0) hx hb hr rfl (fun t ht hW => ⟨0, rfl, rfl, ht⟩) (fun _ h => absurd h List.not_mem_nil) dJ0_coder_7d493_14
set_option maxHeartbeats 4000000 in
set_option maxRecDepth 100000 in
theorem ja_isLatin1 (l : Launch) {tx : Nat × (Nat → Int32)} {q : Nat} : Met l yJ0_isLatin1_aae02 (Cond.code yJ0_isLatin1_aae02 cJ0_isLatin1_aae02 1 (some .boolean) :: wsA) { frames := 1, cells := 0, slots := 0, locals := 0 } (va_Pc [.ref q] (sP tx q)) (vp_Si (fun r => r = 1)) 0 0 (fun _ => False) := by
  refine Met.ofW (cc := cJ0_isLatin1_aae02) (maxL := 1) (ret := (some .boolean)) (by decide) rfl ?_
  intro p e s m args below meth c s₁ B hml hv
  obtain ⟨rfl, hv⟩ := hv
  have hx := B.exec
  have hb := B.bytes
  have hr := B.returns
  have hts := atoms_spec (ws := (Cond.code yJ0_isLatin1_aae02 cJ0_isLatin1_aae02 1 (some .boolean) :: wsA)) B.pre
  have hown : s.vm.findClass RJ0 = some m.cls := findClass_of_methodNamed B.named
  have hlocks := B.notSynchronized
  have hS : va_S (fun _ : Nat => False) s.heap s.heap [] := va_S.rf
  have hl := lv_entry ([.ref q]) (n := 1) (Nat.le_of_ble_eq_true rfl)
  rw [lg_entry_eq]
  generalize (lg_sl ([.ref q]) ++ List.replicate (1 - (lg_sl ([.ref q])).length) Slot.unset).toArray = ls at hl ⊢
  have hl : lv_has ls 1 [(0, .ref q)] := hl
  obtain ⟨⟨v, h1, h2, h3, h4⟩, h5, h6⟩ := hv
  refine va_gets (v := .int 1) hx hb h5 hS hown (hts _ (.tail _ qA_254)) (fun _ h => h) dJ0_isLatin1_aae02_0 ?_
  refine lv_if_eq (tgt := 17) hx hb dJ0_isLatin1_aae02_3 (by decide) (fun h => absurd h (by decide)) (fun _ => ?_)
  refine lv_aload_n hx hb dJ0_isLatin1_aae02_6 rfl (lv_at hl 0 rfl) ?_
  refine vk_getf hx hb h2 hS hown (hts _ (.tail _ qA_255)) (fun _ h => h) dJ0_isLatin1_aae02_7 ?_
  refine lv_if_ne (tgt := 17) hx hb dJ0_isLatin1_aae02_10 (by decide) (fun h => absurd rfl h) (fun _ => ?_)
  refine lv_iconst (v := 1) hx hb dJ0_isLatin1_aae02_13 (by decide) ?_
  refine lv_goto (tgt := 18) hx hb dJ0_isLatin1_aae02_14 (by decide) ?_
  exact W.zret (v := 1) hx hb hr rfl (fun t ht hW => ⟨1, rfl, rfl, ht⟩) (fun _ h => absurd h List.not_mem_nil) dJ0_isLatin1_aae02_18
set_option maxHeartbeats 4000000 in
set_option maxRecDepth 100000 in
theorem ja_length (l : Launch) {tx : Nat × (Nat → Int32)} {q : Nat} : Met l yJ0_length_8abf5 (Cond.code yJ0_length_8abf5 cJ0_length_8abf5 1 (some .int) :: wsA) { frames := 2, cells := 0, slots := 0, locals := 20 } (va_Pc [.ref q] (sP tx q)) (vp_Si (fun r => r = nI tx.1 >>> (0 &&& 31))) 0 0 (fun _ => False) := by
  refine Met.ofW (cc := cJ0_length_8abf5) (maxL := 1) (ret := (some .int)) (by decide) rfl ?_
  intro p e s m args below meth c s₁ B hml hv
  obtain ⟨rfl, hv⟩ := hv
  have hx := B.exec
  have hb := B.bytes
  have hr := B.returns
  have hts := atoms_spec (ws := (Cond.code yJ0_length_8abf5 cJ0_length_8abf5 1 (some .int) :: wsA)) B.pre
  have hown : s.vm.findClass RJ0 = some m.cls := findClass_of_methodNamed B.named
  have hlocks := B.notSynchronized
  have hS : va_S (fun _ : Nat => False) s.heap s.heap [] := va_S.rf
  have hl := lv_entry ([.ref q]) (n := 1) (Nat.le_of_ble_eq_true rfl)
  rw [lg_entry_eq]
  generalize (lg_sl ([.ref q]) ++ List.replicate (1 - (lg_sl ([.ref q])).length) Slot.unset).toArray = ls at hl ⊢
  have hl : lv_has ls 1 [(0, .ref q)] := hl
  obtain ⟨⟨v, h1, h2, h3, h4⟩, h5, h6⟩ := id hv
  refine lv_aload_n hx hb dJ0_length_8abf5_0 rfl (lv_at hl 0 rfl) ?_
  refine vk_getf hx hb h3 hS hown (hts _ (.tail _ qA_249)) (fun _ h => h) dJ0_length_8abf5_1 ?_
  refine va_tlen (v := nI tx.1) hx hb h4 hS rfl dJ0_length_8abf5_4 ?_
  refine lv_aload_n hx hb dJ0_length_8abf5_5 rfl (lv_at hl 0 rfl) ?_
  refine s_callV (As := []) (rest := [.int (nI tx.1)]) ⟨hx, hb, hml, hown, hts⟩ (ja_coder l (tx := tx) (q := q)) (cwV 0 hts (gaV qA_250 qA_251 qA_252 qA_247 qA_253) rfl rfl rfl (by decide +kernel) ⟨Nat.le_of_ble_eq_true rfl, Nat.le_of_ble_eq_true rfl⟩) (h1.elim fun cell h => ⟨cell, h.1, h.2.1, h.2.2.1⟩) (fun _ _ _ _ h => h.blind) (fun U hU hW => ⟨by rw [hU]; exact sO.moved hW.alike hv.1, by rw [hU]; exact sZ.moved hW.alike hv.2⟩) rfl hl.1 rfl (lv_room (Nat.le_of_ble_eq_true rfl)) dJ0_length_8abf5_6 ⟨Nat.zero_le _, Nat.zero_le _⟩ (fun r hq => ?_)
  refine lv_to hq ?_
  refine lv_ishr hx hb dJ0_length_8abf5_9 ?_
  exact W.iret (v := (nI tx.1 >>> (0 &&& 31))) hx hb hr (fun t ht hW => ⟨(nI tx.1 >>> (0 &&& 31)), rfl, rfl, ht⟩) (fun _ h => absurd h List.not_mem_nil) dJ0_length_8abf5_10
set_option maxHeartbeats 4000000 in
set_option maxRecDepth 100000 in
theorem ja_ck3n (l : Launch) {i n : Nat} (hi : i < n) (hn : n < 2 ^ 31) : Met l yJ3_checkIndex_8e157 (Cond.code yJ3_checkIndex_8e157 cJ3_checkIndex_8e157 3 (some .int) :: wsA) { frames := 1, cells := 0, slots := 0, locals := 0 } (va_Pc [.int (nI i), .int (nI n), .null] (fun _ => True)) (vp_Si (fun r => r = nI i)) 0 0 (fun _ => False) := by
  refine Met.ofW (cc := cJ3_checkIndex_8e157) (maxL := 3) (ret := (some .int)) (by decide) rfl ?_
  intro p e s m args below meth c s₁ B hml hv
  obtain ⟨rfl, hv⟩ := hv
  have hx := B.exec
  have hb := B.bytes
  have hr := B.returns
  have hts := atoms_spec (ws := (Cond.code yJ3_checkIndex_8e157 cJ3_checkIndex_8e157 3 (some .int) :: wsA)) B.pre
  have hown : s.vm.findClass RJ3 = some m.cls := findClass_of_methodNamed B.named
  have hlocks := B.notSynchronized
  have hS : va_S (fun _ : Nat => False) s.heap s.heap [] := va_S.rf
  have hl := lv_entry ([.int (nI i), .int (nI n), .null]) (n := 3) (Nat.le_of_ble_eq_true rfl)
  rw [lg_entry_eq]
  generalize (lg_sl ([.int (nI i), .int (nI n), .null]) ++ List.replicate (3 - (lg_sl ([.int (nI i), .int (nI n), .null])).length) Slot.unset).toArray = ls at hl ⊢
  have hl : lv_has ls 3 [(0, .int (nI i)), (1, .int (nI n)), (2, .null)] := hl
  refine lv_iload_n hx hb dJ3_checkIndex_8e157_0 rfl (lv_at hl 0 rfl) ?_
  refine lv_if_lt (tgt := 9) hx hb dJ3_checkIndex_8e157_1 (by decide) (fun h => absurd h (nI_pos (Nat.lt_trans hi hn))) (fun _ => ?_)
  refine lv_iload_n hx hb dJ3_checkIndex_8e157_4 rfl (lv_at hl 0 rfl) ?_
  refine lv_iload_n hx hb dJ3_checkIndex_8e157_5 rfl (lv_at hl 1 rfl) ?_
  refine lv_icmp_lt (tgt := 16) hx hb dJ3_checkIndex_8e157_6 (by decide) (fun _ => ?_) (fun h => absurd (nI_lt hi hn) h)
  refine lv_iload_n hx hb dJ3_checkIndex_8e157_16 rfl (lv_at hl 0 rfl) ?_
  exact W.iret (v := (nI i)) hx hb hr (fun t ht hW => ⟨(nI i), rfl, rfl, ht⟩) (fun _ h => absurd h List.not_mem_nil) dJ3_checkIndex_8e157_17
set_option maxHeartbeats 4000000 in
set_option maxRecDepth 100000 in
theorem ja_ck3r (l : Launch) {i n : Nat} {z : Nat} (hi : i < n) (hn : n < 2 ^ 31) : Met l yJ3_checkIndex_8e157 (Cond.code yJ3_checkIndex_8e157 cJ3_checkIndex_8e157 3 (some .int) :: wsA) { frames := 1, cells := 0, slots := 0, locals := 0 } (va_Pc [.int (nI i), .int (nI n), .ref z] (fun _ => True)) (vp_Si (fun r => r = nI i)) 0 0 (fun _ => False) := by
  refine Met.ofW (cc := cJ3_checkIndex_8e157) (maxL := 3) (ret := (some .int)) (by decide) rfl ?_
  intro p e s m args below meth c s₁ B hml hv
  obtain ⟨rfl, hv⟩ := hv
  have hx := B.exec
  have hb := B.bytes
  have hr := B.returns
  have hts := atoms_spec (ws := (Cond.code yJ3_checkIndex_8e157 cJ3_checkIndex_8e157 3 (some .int) :: wsA)) B.pre
  have hown : s.vm.findClass RJ3 = some m.cls := findClass_of_methodNamed B.named
  have hlocks := B.notSynchronized
  have hS : va_S (fun _ : Nat => False) s.heap s.heap [] := va_S.rf
  have hl := lv_entry ([.int (nI i), .int (nI n), .ref z]) (n := 3) (Nat.le_of_ble_eq_true rfl)
  rw [lg_entry_eq]
  generalize (lg_sl ([.int (nI i), .int (nI n), .ref z]) ++ List.replicate (3 - (lg_sl ([.int (nI i), .int (nI n), .ref z])).length) Slot.unset).toArray = ls at hl ⊢
  have hl : lv_has ls 3 [(0, .int (nI i)), (1, .int (nI n)), (2, .ref z)] := hl
  refine lv_iload_n hx hb dJ3_checkIndex_8e157_0 rfl (lv_at hl 0 rfl) ?_
  refine lv_if_lt (tgt := 9) hx hb dJ3_checkIndex_8e157_1 (by decide) (fun h => absurd h (nI_pos (Nat.lt_trans hi hn))) (fun _ => ?_)
  refine lv_iload_n hx hb dJ3_checkIndex_8e157_4 rfl (lv_at hl 0 rfl) ?_
  refine lv_iload_n hx hb dJ3_checkIndex_8e157_5 rfl (lv_at hl 1 rfl) ?_
  refine lv_icmp_lt (tgt := 16) hx hb dJ3_checkIndex_8e157_6 (by decide) (fun _ => ?_) (fun h => absurd (nI_lt hi hn) h)
  refine lv_iload_n hx hb dJ3_checkIndex_8e157_16 rfl (lv_at hl 0 rfl) ?_
  exact W.iret (v := (nI i)) hx hb hr (fun t ht hW => ⟨(nI i), rfl, rfl, ht⟩) (fun _ h => absurd h List.not_mem_nil) dJ3_checkIndex_8e157_17
set_option maxHeartbeats 4000000 in
set_option maxRecDepth 100000 in
theorem ja_ck0 (l : Launch) {i n : Nat} (hi : i < n) (hn : n < 2 ^ 31) : Met l yJ0_checkIndex_df160 (Cond.code yJ0_checkIndex_df160 cJ0_checkIndex_df160 2 none :: wsA) { frames := 2, cells := 0, slots := 0, locals := 22 } (va_Pc [.int (nI i), .int (nI n)] (fun U => sZ (fun _ => False) U U.heap)) s_Sv 0 0 (fun _ => False) := by
  refine Met.ofW (cc := cJ0_checkIndex_df160) (maxL := 2) (ret := none) (by decide) rfl ?_
  intro p e s m args below meth c s₁ B hml hv
  obtain ⟨rfl, hv⟩ := hv
  have hx := B.exec
  have hb := B.bytes
  have hr := B.returns
  have hts := atoms_spec (ws := (Cond.code yJ0_checkIndex_df160 cJ0_checkIndex_df160 2 none :: wsA)) B.pre
  have hown : s.vm.findClass RJ0 = some m.cls := findClass_of_methodNamed B.named
  have hlocks := B.notSynchronized
  have hS : va_S (fun _ : Nat => False) s.heap s.heap [] := va_S.rf
  have hl := lv_entry ([.int (nI i), .int (nI n)]) (n := 2) (Nat.le_of_ble_eq_true rfl)
  rw [lg_entry_eq]
  generalize (lg_sl ([.int (nI i), .int (nI n)]) ++ List.replicate (2 - (lg_sl ([.int (nI i), .int (nI n)])).length) Slot.unset).toArray = ls at hl ⊢
  have hl : lv_has ls 2 [(0, .int (nI i)), (1, .int (nI n))] := hl
  obtain ⟨h5, h6⟩ := hv
  refine lv_iload_n hx hb dJ0_checkIndex_df160_0 rfl (lv_at hl 0 rfl) ?_
  refine lv_iload_n hx hb dJ0_checkIndex_df160_1 rfl (lv_at hl 1 rfl) ?_
  rcases h6 with h6 | ⟨z, h6⟩
  · refine va_gets (v := .null) hx hb h6 hS hown (hts _ (.tail _ qA_271)) (fun _ h => h) dJ0_checkIndex_df160_2 ?_
    refine s_stat (As := [.int (nI i), .int (nI n), .null]) (rest := []) ⟨hx, hb, hml, hown, hts⟩ (ja_ck3n l hi hn) ⟨callB_of 3 hts (gaIn (L := []) (fun _ h => absurd h List.not_mem_nil) qA_275) rfl rfl rfl (hts _ (.tail _ qA_274)) (hts _ (.tail _ qA_272)) (by decide +kernel) ⟨Nat.le_of_ble_eq_true rfl, Nat.le_of_ble_eq_true rfl⟩, hts _ (.tail _ qA_273)⟩ (fun _ _ _ _ h => h) (fun _ _ _ => trivial) rfl hl.1 rfl (lv_room (Nat.le_of_ble_eq_true rfl)) dJ0_checkIndex_df160_5 ⟨Nat.zero_le _, Nat.zero_le _⟩ (fun r hq => ?_)
    refine lv_pop hx hb dJ0_checkIndex_df160_8 rfl ?_
    exact W.vret hx hb hr (fun t ht hW => ⟨rfl, ht⟩) (fun _ h => absurd h List.not_mem_nil) dJ0_checkIndex_df160_9
  · refine va_gets (v := .ref z) hx hb h6 hS hown (hts _ (.tail _ qA_271)) (fun _ h => h) dJ0_checkIndex_df160_2 ?_
    refine s_stat (As := [.int (nI i), .int (nI n), .ref z]) (rest := []) ⟨hx, hb, hml, hown, hts⟩ (ja_ck3r l hi hn) ⟨callB_of 3 hts (gaIn (L := []) (fun _ h => absurd h List.not_mem_nil) qA_275) rfl rfl rfl (hts _ (.tail _ qA_274)) (hts _ (.tail _ qA_272)) (by decide +kernel) ⟨Nat.le_of_ble_eq_true rfl, Nat.le_of_ble_eq_true rfl⟩, hts _ (.tail _ qA_273)⟩ (fun _ _ _ _ h => h) (fun _ _ _ => trivial) rfl hl.1 rfl (lv_room (Nat.le_of_ble_eq_true rfl)) dJ0_checkIndex_df160_5 ⟨Nat.zero_le _, Nat.zero_le _⟩ (fun r hq => ?_)
    refine lv_pop hx hb dJ0_checkIndex_df160_8 rfl ?_
    exact W.vret hx hb hr (fun t ht hW => ⟨rfl, ht⟩) (fun _ h => absurd h List.not_mem_nil) dJ0_checkIndex_df160_9
set_option maxHeartbeats 4000000 in
set_option maxRecDepth 100000 in
theorem ja_ch1 (l : Launch) {v k n : Nat} {f : Nat → Int32} (hk : k < n) (hn : n < 2 ^ 31) (hc : narrow .char (.int (s_ch (f k))) = .int (s_ch (f k))) : Met l yJ1_charAt_3b067 (Cond.code yJ1_charAt_3b067 cJ1_charAt_3b067 2 (some .char) :: wsA) { frames := 3, cells := 0, slots := 0, locals := 44 } (va_Pc [.ref v, .int (nI k)] (fun U => va_T .byte v n (fun j => .int (f j)) (fun _ => False) U U.heap ∧ sZ (fun _ => False) U U.heap)) (vp_Si (fun r => r = s_ch (f k))) 0 0 (fun _ => False) := by
  refine Met.ofW (cc := cJ1_charAt_3b067) (maxL := 2) (ret := (some .char)) (by decide) rfl ?_
  intro p e s m args below meth c s₁ B hml hv
  obtain ⟨rfl, hv⟩ := hv
  have hx := B.exec
  have hb := B.bytes
  have hr := B.returns
  have hts := atoms_spec (ws := (Cond.code yJ1_charAt_3b067 cJ1_charAt_3b067 2 (some .char) :: wsA)) B.pre
  have hown : s.vm.findClass RJ1 = some m.cls := findClass_of_methodNamed B.named
  have hlocks := B.notSynchronized
  have hS : va_S (fun _ : Nat => False) s.heap s.heap [] := va_S.rf
  have hl := lv_entry ([.ref v, .int (nI k)]) (n := 2) (Nat.le_of_ble_eq_true rfl)
  rw [lg_entry_eq]
  generalize (lg_sl ([.ref v, .int (nI k)]) ++ List.replicate (2 - (lg_sl ([.ref v, .int (nI k)])).length) Slot.unset).toArray = ls at hl ⊢
  have hl : lv_has ls 2 [(0, .ref v), (1, .int (nI k))] := hl
  obtain ⟨h4, h5⟩ := hv
  refine lv_iload_n hx hb dJ1_charAt_3b067_0 rfl (lv_at hl 1 rfl) ?_
  refine lv_aload_n hx hb dJ1_charAt_3b067_1 rfl (lv_at hl 0 rfl) ?_
  refine va_tlen (v := nI n) hx hb h4 hS rfl dJ1_charAt_3b067_2 ?_
  refine s_statv (As := [.int (nI k), .int (nI n)]) (rest := []) ⟨hx, hb, hml, hown, hts⟩ (ja_ck0 l hk hn) ⟨callB_of 2 hts (gaIn (L := []) (fun _ h => absurd h List.not_mem_nil) qA_270) rfl rfl rfl (hts _ (.tail _ qA_247)) (hts _ (.tail _ qA_268)) (by decide +kernel) ⟨Nat.le_of_ble_eq_true rfl, Nat.le_of_ble_eq_true rfl⟩, hts _ (.tail _ qA_269)⟩ (fun _ U g mk h => sZ.moved (u := U) (Vm.Alike.refl U.vm) h) (fun U hU hW => by rw [hU]; exact sZ.moved hW.alike h5) rfl hl.1 rfl (lv_room (Nat.le_of_ble_eq_true rfl)) dJ1_charAt_3b067_3 ⟨Nat.zero_le _, Nat.zero_le _⟩ ?_
  refine lv_aload_n hx hb dJ1_charAt_3b067_6 rfl (lv_at hl 0 rfl) ?_
  refine lv_iload_n hx hb dJ1_charAt_3b067_7 rfl (lv_at hl 1 rfl) ?_
  refine va_tb (v := .int (f k)) hx hb h4 hS (vp_in_nI hk hn) (by rw [nI_clamp (Nat.lt_trans hk hn)]) dJ1_charAt_3b067_8 ?_
  refine lv_sipush (v := 255) hx hb dJ1_charAt_3b067_9 (by decide) ?_
  refine lv_iand hx hb dJ1_charAt_3b067_12 ?_
  refine lv_i2c (v := s_ch (f k)) hx hb dJ1_charAt_3b067_13 rfl ?_
  exact W.zret (v := (s_ch (f k))) hx hb hr hc (fun t ht hW => ⟨(s_ch (f k)), rfl, rfl, ht⟩) (fun _ h => absurd h List.not_mem_nil) dJ1_charAt_3b067_14
set_option maxHeartbeats 4000000 in
set_option maxRecDepth 100000 in
theorem ja_charAt (l : Launch) {tx : Nat × (Nat → Int32)} {q : Nat} {k : Nat} (hk : k < tx.1) (hn : tx.1 < 2 ^ 31) (hc : narrow .char (.int (s_ch (tx.2 k))) = .int (s_ch (tx.2 k))) : Met l yJ0_charAt_5068e (Cond.code yJ0_charAt_5068e cJ0_charAt_5068e 2 (some .char) :: wsA) { frames := 4, cells := 0, slots := 0, locals := 66 } (va_Pc [.ref q, .int (nI k)] (sP tx q)) (vp_Si (fun r => r = s_ch (tx.2 k))) 0 0 (fun _ => False) := by
  refine Met.ofW (cc := cJ0_charAt_5068e) (maxL := 2) (ret := (some .char)) (by decide) rfl ?_
  intro p e s m args below meth c s₁ B hml hv
  obtain ⟨rfl, hv⟩ := hv
  have hx := B.exec
  have hb := B.bytes
  have hr := B.returns
  have hts := atoms_spec (ws := (Cond.code yJ0_charAt_5068e cJ0_charAt_5068e 2 (some .char) :: wsA)) B.pre
  have hown : s.vm.findClass RJ0 = some m.cls := findClass_of_methodNamed B.named
  have hlocks := B.notSynchronized
  have hS : va_S (fun _ : Nat => False) s.heap s.heap [] := va_S.rf
  have hl := lv_entry ([.ref q, .int (nI k)]) (n := 2) (Nat.le_of_ble_eq_true rfl)
  rw [lg_entry_eq]
  generalize (lg_sl ([.ref q, .int (nI k)]) ++ List.replicate (2 - (lg_sl ([.ref q, .int (nI k)])).length) Slot.unset).toArray = ls at hl ⊢
  have hl : lv_has ls 2 [(0, .ref q), (1, .int (nI k))] := hl
  obtain ⟨⟨v, h1, h2, h3, h4⟩, h5⟩ := id hv
  refine lv_aload_n hx hb dJ0_charAt_5068e_0 rfl (lv_at hl 0 rfl) ?_
  refine s_callV (As := []) (rest := []) ⟨hx, hb, hml, hown, hts⟩ (ja_isLatin1 l (tx := tx) (q := q)) (cwV 0 hts (gaV qA_260 qA_261 qA_262 qA_247 qA_263) rfl rfl rfl (by decide +kernel) ⟨Nat.le_of_ble_eq_true rfl, Nat.le_of_ble_eq_true rfl⟩) (h1.elim fun cell h => ⟨cell, h.1, h.2.1, h.2.2.1⟩) (fun _ _ _ _ h => h.blind) (fun U hU hW => ⟨by rw [hU]; exact sO.moved hW.alike hv.1, by rw [hU]; exact sZ.moved hW.alike hv.2⟩) rfl hl.1 rfl (lv_room (Nat.le_of_ble_eq_true rfl)) dJ0_charAt_5068e_1 ⟨Nat.zero_le _, Nat.zero_le _⟩ (fun r hq => ?_)
  refine lv_to hq ?_
  refine lv_if_eq (tgt := 16) hx hb dJ0_charAt_5068e_4 (by decide) (fun h => absurd h (by decide)) (fun _ => ?_)
  refine lv_aload_n hx hb dJ0_charAt_5068e_7 rfl (lv_at hl 0 rfl) ?_
  refine vk_getf hx hb h3 hS hown (hts _ (.tail _ qA_249)) (fun _ h => h) dJ0_charAt_5068e_8 ?_
  refine lv_iload_n hx hb dJ0_charAt_5068e_11 rfl (lv_at hl 1 rfl) ?_
  refine s_stat (As := [.ref v, .int (nI k)]) (rest := []) ⟨hx, hb, hml, hown, hts⟩ (ja_ch1 l (v := v) (n := tx.1) (f := tx.2) hk hn hc) ⟨callB_of 2 hts (gaIn (L := []) (fun _ h => absurd h List.not_mem_nil) qA_267) rfl rfl rfl (hts _ (.tail _ qA_266)) (hts _ (.tail _ qA_264)) (by decide +kernel) ⟨Nat.le_of_ble_eq_true rfl, Nat.le_of_ble_eq_true rfl⟩, hts _ (.tail _ qA_265)⟩ (fun _ U g mk h => ⟨va_T.moved (u := U) (Vm.Alike.refl U.vm) h.1, sZ.moved (u := U) (Vm.Alike.refl U.vm) h.2⟩) (fun U hU hW => ⟨by rw [hU]; exact va_T.moved hW.alike h4, by rw [hU]; exact sZ.moved hW.alike h5⟩) rfl hl.1 rfl (lv_room (Nat.le_of_ble_eq_true rfl)) dJ0_charAt_5068e_12 ⟨Nat.zero_le _, Nat.zero_le _⟩ (fun r hq => ?_)
  refine lv_to hq ?_
  exact W.zret (v := (s_ch (tx.2 k))) hx hb hr hc (fun t ht hW => ⟨(s_ch (tx.2 k)), rfl, rfl, ht⟩) (fun _ h => absurd h List.not_mem_nil) dJ0_charAt_5068e_15
end
