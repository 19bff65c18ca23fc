section
/-! 11a.dec0.lean.txt -/
def elet {α β : Type} (x : α) (f : α → Option β) : Option β := f x
def oif {β : Type} (c : Prop) [Decidable c] (x : Option β) : Option β := if c then x else none
def obind {α β : Type} (x : Option α) (f : α → Option β) : Option β := match x with
  | none => none
  | some a => f a
def obind2 {α β γ : Type} (x : Option (α × β)) (f : α → β → Option γ) : Option γ := match x with
  | none => none
  | some (a, b) => f a b
theorem elet_some {α β : Type} {x : α} {f : α → Option β} {y : β} (h : elet x f = some y) : ∃ v, v = x ∧ f v = some y := ⟨x, rfl, h⟩
theorem elet_at {α β : Type} {x v : α} {f : α → Option β} {y : β} (e : v = x) (h : elet x f = some y) : f v = some y := by rw [e]; exact h
theorem oif_some {β : Type} {c : Prop} [Decidable c] {x : Option β} {y : β} (h : oif c x = some y) : c ∧ x = some y := by
  unfold oif at h
  by_cases hc : c
  · rw [if_pos hc] at h
    exact ⟨hc, h⟩
  · rw [if_neg hc] at h
    cases h
theorem oif_pos {β : Type} {c : Prop} [Decidable c] {x z : Option β} {y : β} (hc : c) (h : (if c then x else z) = some y) : x = some y := by rw [if_pos hc] at h; exact h
theorem oif_neg {β : Type} {c : Prop} [Decidable c] {x z : Option β} {y : β} (hc : ¬ c) (h : (if c then x else z) = some y) : z = some y := by rw [if_neg hc] at h; exact h
theorem obind_some {α β : Type} {x : Option α} {f : α → Option β} {y : β} (h : obind x f = some y) : ∃ a, x = some a ∧ f a = some y := by
  cases x with
  | none => cases h
  | some a => exact ⟨a, rfl, h⟩
theorem obind2_some {α β γ : Type} {x : Option (α × β)} {f : α → β → Option γ} {y : γ} (h : obind2 x f = some y) : ∃ a b, x = some (a, b) ∧ f a b = some y := by
  cases x with
  | none => cases h
  | some q => exact ⟨q.1, q.2, rfl, h⟩
theorem osome1 {α : Type} {x y : α} (h : some x = some y) : x = y := Option.some.inj h
theorem osome2 {α β : Type} {x y : α} {u v : β} (h : some (x, u) = some (y, v)) : x = y ∧ u = v := ⟨congrArg Prod.fst (Option.some.inj h), congrArg Prod.snd (Option.some.inj h)⟩
def inb (i : Int32) (n : Nat) : Bool := decide (0 ≤ i) && Nat.blt i.toNatClampNeg n
theorem inb_k {i : Int32} {n : Nat} (h : inb i n = true) : i = nI i.toNatClampNeg ∧ i.toNatClampNeg < n := by
  have h1 := (Bool.and_eq_true _ _).mp h
  have h2 : 0 ≤ i := of_decide_eq_true h1.1
  have h3 : ¬ i < 0 := Int32.not_lt.mpr h2
  obtain ⟨j, hj, e⟩ := nI_of h3
  have h4 : i.toNatClampNeg = j := by rw [e]; exact nI_clamp hj
  exact ⟨by rw [h4]; exact e, Nat.le_of_ble_eq_true h1.2⟩
theorem nar01 {v : Int32} (h : v = 0 ∨ v = 1) : narrow .boolean (.int v) = .int v := by rcases h with rfl | rfl <;> rfl
theorem tsw_ne {x : Int32} {k : Int32} {a : Int} (hk : k.toInt = a) (h : ¬ x = k) : ¬ x.toInt = a := fun q => h (Int32.toInt_inj.mp (by rw [hk]; exact q))
theorem tsw_0_2 {x : Int32} (h0 : ¬ x = 0) (h1 : ¬ x = 1) (h2 : ¬ x = 2) : x.toInt < 0 ∨ 2 < x.toInt := by
  have a0 := tsw_ne (a := 0) (by decide) h0
  have a1 := tsw_ne (a := 1) (by decide) h1
  have a2 := tsw_ne (a := 2) (by decide) h2
  omega
theorem tsw_0_3 {x : Int32} (h0 : ¬ x = 0) (h1 : ¬ x = 1) (h2 : ¬ x = 2) (h3 : ¬ x = 3) : x.toInt < 0 ∨ 3 < x.toInt := by
  have a0 := tsw_ne (a := 0) (by decide) h0
  have a1 := tsw_ne (a := 1) (by decide) h1
  have a2 := tsw_ne (a := 2) (by decide) h2
  have a3 := tsw_ne (a := 3) (by decide) h3
  omega
abbrev mCs (l : Launch) (y : MethodName) (ws : List Cond) (fr lo : Nat) (D : va_G) (cI cJ cZ : ClassId) (ad : Nat → Nat) (S : MS) (As : List Value) (post : MS → Prop) : Prop := ∀ sz : Nat, Met l y ws { frames := fr, cells := 0, slots := 0, locals := lo } (va_Pc As (mB D cI cJ cZ ad S sz)) (va_Qv post (mAt D cI cJ cZ ad (va_A (MW cI cJ cZ ad S) sz)) (va_A (MW cI cJ cZ ad S) sz)) 0 0 (va_A (MW cI cJ cZ ad S) sz)
section DEC
variable {p : Program} {l : Launch} {e : Env} {R : Room} {s : State} {m : MethodId} {args : Array Value} {below : List Frame} {meth : Method} {c : Code} {H : Heap} {locs : List Loc} {cells slots : Nat} {Q : State → Prop}
variable {cc : ByteArray} {pc : Nat} {ls : Array Slot} {rest : List Value} {D : va_G} {A : Nat → Prop} {H0 : Heap} {Ts : List Cond} {cI cJ cZ : ClassId} {ad : Nat → Nat} {S : MS}
/-- a static call by the reference that is handed its arrays -/
theorem m_calls {y : MethodName} {bytes : ByteArray} {maxL nL n index fr lo : Nat} {ret : Option FieldType} {ws : List Cond} {As : List Value} {post : MS → Prop} (E : mE p c cc s m args Ts D cI cJ cZ) (G : mG D cI cJ cZ ad A H0 H locs S) (hA : ∀ q, H0.size ≤ q → A q) (hR : sR s) (hml : c.maxLocals = nL) (hM : mCs l y ws fr lo D cI cJ cZ ad S As post) (cw : CallB R s args RX12 index y bytes maxL ret ws { frames := fr, cells := 0, slots := 0, locals := lo } 0 0 n ∧ (Cond.static y).before args s = true) (hn : As.length = n) (hsz : ls.size = nL) {st : List Value} (hst : st = As.reverse ++ rest) (hW : 2 * (F0 m pc ls st).monitorRoom + (rest.map fun v => v.category).sum ≤ 8) (hdg : decode cc pc = .ok (.invokestatic index, 3)) (hf : cells ≤ R.cells ∧ slots ≤ R.slots) (kk : ∀ (S1 : MS) (H1 : Heap) (locs1 : List Loc), post S1 → mG D cI cJ cZ ad A H0 H1 locs1 S1 → W p l e R s m args below meth c H1 locs1 cells slots Q (F0 m (pc + 3) ls rest)) : W p l e R s m args below meth c H locs cells slots Q (F0 m pc ls st) := by
  obtain ⟨hx, hb, hts, hown, hK, hin⟩ := E
  obtain ⟨hP, hD, hS⟩ := G
  have hFc := va_free (wc := MW cI cJ cZ ad S) hD hS hA [0, 1, 2, 3, 4, 5, 6, 7, 8, 9, 10, 11, 12, 13, 14, 15, 16] rfl
  refine va_callv (va_runS (As := As) (rest := rest) ⟨hx, hb, hml, hown, hts⟩ (hM H.size) cw ⟨fun a U g mk q => by obtain ⟨q0, q1, qP, qK, qD, qR⟩ := q; exact ⟨q0, q1, qP, va_K.moved (u := U) (U := U.calling g mk a) (Vm.Alike.refl U.vm) qK, qD, qR.blind⟩, fun U hU hW => ⟨rfl, by rw [hU], by rw [hU]; exact hP, va_K.moved hW.alike hK, hD.weaken (fun _ _ _ _ => trivial), hR.warm hW⟩⟩ rfl hn hsz hst hW hdg hf) hS (fun q _ h => hFc q h) hFc (fun u t H1 locs1 ht hvm hw hB hz1 hk1 hS => ?_)
  obtain ⟨hP1, hK1, hD1⟩ := hB
  rw [ht] at hP1
  obtain ⟨hP2, hD2⟩ := va_join (wr := []) (w1 := MW cI cJ cZ ad u) hP hD [0, 1, 2, 3, 4, 5, 6, 7, 8, 9, 10, 11, 12, 13, 14, 15, 16] [] rfl rfl (by decide) (by decide) hk1 hFc hP1 hD1
  exact kk u H1 locs1 hw ⟨hP2, hD2, hS⟩
theorem m_zast (E : mE p c cc s m args Ts D cI cJ cZ) (G : mG D cI cJ cZ ad A H0 H locs S) (j q0 : Nat) {n k : Nat} {i v : Int32} (ha : (MW cI cJ cZ ad S)[q0]? = some (ad j, .inl (cZ, n, .inl (S.2.1 j)))) (hs : ∀ f, (MW cI cJ cZ ad S).set q0 (ad j, .inl (cZ, n, .inl f)) = MW cI cJ cZ ad (mf S j f)) (hi : i = nI k) (hk : k < n) (hn : n < 2 ^ 31) (hv : vp_nar .boolean v = v) (hdg : decode cc pc = .ok (.bastore, 1)) (kk : ∀ (H1 : Heap) (locs1 : List Loc), mG D cI cJ cZ ad A H0 H1 locs1 (mf S j (upd (S.2.1 j) k v)) → W p l e R s m args below meth c H1 locs1 cells slots Q (F0 m (pc + 1) ls rest)) : W p l e R s m args below meth c H locs cells slots Q (F0 m pc ls (.int v :: .int i :: .ref (ad j) :: rest)) := by
  subst hi
  refine va_zast E.1 E.2.1 E.2.2.2.2.1 G.1 G.2.1 G.2.2 q0 2 ha rfl (vp_in_nI hk hn) hdg (fun H1 locs1 h1 h2 h3 => kk H1 locs1 ?_)
  rw [nI_clamp (Nat.lt_trans hk hn), hv, hs] at h1 h2
  exact ⟨h1, h2, h3⟩
theorem lv_tof {x y : UInt32} (h : x = y) (k : W p l e R s m args below meth c H locs cells slots Q (F0 m pc ls (.float y :: rest))) : W p l e R s m args below meth c H locs cells slots Q (F0 m pc ls (.float x :: rest)) := by
  subst h
  exact k
end DEC
end
section
/-! 11a1.jdk.lean.txt -/
theorem dJ13_compare_74951_0 : decode cJ13_compare_74951 0 = .ok (.lload_n 0, 1) := ybd_30 (by decide +kernel)
theorem dJ13_compare_74951_1 : decode cJ13_compare_74951 1 = .ok (.lload_n 2, 1) := ybd_32 (by decide +kernel)
theorem dJ13_compare_74951_2 : decode cJ13_compare_74951 2 = .ok (.lcmp, 1) := ybd_148 (by decide +kernel)
theorem dJ13_compare_74951_3 : decode cJ13_compare_74951 3 = .ok (.ifCond .ge 7, 3) := ybd_156 0 7 (by decide +kernel) (by decide +kernel)
theorem dJ13_compare_74951_6 : decode cJ13_compare_74951 6 = .ok (.iconst (-1), 1) := ybd_2 (by decide +kernel)
theorem dJ13_compare_74951_7 : decode cJ13_compare_74951 7 = .ok (.goto 14, 3) := ybd_167 0 14 (by decide +kernel) (by decide +kernel)
theorem dJ13_compare_74951_10 : decode cJ13_compare_74951 10 = .ok (.lload_n 0, 1) := ybd_30 (by decide +kernel)
theorem dJ13_compare_74951_11 : decode cJ13_compare_74951 11 = .ok (.lload_n 2, 1) := ybd_32 (by decide +kernel)
theorem dJ13_compare_74951_12 : decode cJ13_compare_74951 12 = .ok (.lcmp, 1) := ybd_148 (by decide +kernel)
theorem dJ13_compare_74951_13 : decode cJ13_compare_74951 13 = .ok (.ifCond .ne 7, 3) := ybd_154 0 7 (by decide +kernel) (by decide +kernel)
theorem dJ13_compare_74951_16 : decode cJ13_compare_74951 16 = .ok (.iconst 0, 1) := ybd_3 (by decide +kernel)
theorem dJ13_compare_74951_17 : decode cJ13_compare_74951 17 = .ok (.goto 4, 3) := ybd_167 0 4 (by decide +kernel) (by decide +kernel)
theorem dJ13_compare_74951_20 : decode cJ13_compare_74951 20 = .ok (.iconst 1, 1) := ybd_4 (by decide +kernel)
theorem dJ13_compare_74951_21 : decode cJ13_compare_74951 21 = .ok (.ireturn, 1) := ybd_172 (by decide +kernel)
theorem dJ9_floorDiv_f86c9_0 : decode cJ9_floorDiv_f86c9 0 = .ok (.lload_n 0, 1) := ybd_30 (by decide +kernel)
theorem dJ9_floorDiv_f86c9_1 : decode cJ9_floorDiv_f86c9 1 = .ok (.lload_n 2, 1) := ybd_32 (by decide +kernel)
theorem dJ9_floorDiv_f86c9_2 : decode cJ9_floorDiv_f86c9 2 = .ok (.ldiv, 1) := ybd_109 (by decide +kernel)
theorem dJ9_floorDiv_f86c9_3 : decode cJ9_floorDiv_f86c9 3 = .ok (.lstore 4, 2) := ybd_55 4 (by decide +kernel) rfl
theorem dJ9_floorDiv_f86c9_5 : decode cJ9_floorDiv_f86c9 5 = .ok (.lload_n 0, 1) := ybd_30 (by decide +kernel)
theorem dJ9_floorDiv_f86c9_6 : decode cJ9_floorDiv_f86c9 6 = .ok (.lload_n 2, 1) := ybd_32 (by decide +kernel)
theorem dJ9_floorDiv_f86c9_7 : decode cJ9_floorDiv_f86c9 7 = .ok (.lxor, 1) := ybd_131 (by decide +kernel)
theorem dJ9_floorDiv_f86c9_8 : decode cJ9_floorDiv_f86c9 8 = .ok (.lconst 0, 1) := ybd_9 (by decide +kernel)
theorem dJ9_floorDiv_f86c9_9 : decode cJ9_floorDiv_f86c9 9 = .ok (.lcmp, 1) := ybd_148 (by decide +kernel)
theorem dJ9_floorDiv_f86c9_10 : decode cJ9_floorDiv_f86c9 10 = .ok (.ifCond .ge 17, 3) := ybd_156 0 17 (by decide +kernel) (by decide +kernel)
theorem dJ9_floorDiv_f86c9_13 : decode cJ9_floorDiv_f86c9 13 = .ok (.lload 4, 2) := ybd_22 4 (by decide +kernel) rfl
theorem dJ9_floorDiv_f86c9_15 : decode cJ9_floorDiv_f86c9 15 = .ok (.lload_n 2, 1) := ybd_32 (by decide +kernel)
theorem dJ9_floorDiv_f86c9_16 : decode cJ9_floorDiv_f86c9 16 = .ok (.lmul, 1) := ybd_105 (by decide +kernel)
theorem dJ9_floorDiv_f86c9_17 : decode cJ9_floorDiv_f86c9 17 = .ok (.lload_n 0, 1) := ybd_30 (by decide +kernel)
theorem dJ9_floorDiv_f86c9_18 : decode cJ9_floorDiv_f86c9 18 = .ok (.lcmp, 1) := ybd_148 (by decide +kernel)
theorem dJ9_floorDiv_f86c9_19 : decode cJ9_floorDiv_f86c9 19 = .ok (.ifCond .eq 8, 3) := ybd_153 0 8 (by decide +kernel) (by decide +kernel)
theorem dJ9_floorDiv_f86c9_22 : decode cJ9_floorDiv_f86c9 22 = .ok (.lload 4, 2) := ybd_22 4 (by decide +kernel) rfl
theorem dJ9_floorDiv_f86c9_24 : decode cJ9_floorDiv_f86c9 24 = .ok (.lconst 1, 1) := ybd_10 (by decide +kernel)
theorem dJ9_floorDiv_f86c9_25 : decode cJ9_floorDiv_f86c9 25 = .ok (.lsub, 1) := ybd_101 (by decide +kernel)
theorem dJ9_floorDiv_f86c9_26 : decode cJ9_floorDiv_f86c9 26 = .ok (.lreturn, 1) := ybd_173 (by decide +kernel)
theorem dJ9_floorDiv_f86c9_27 : decode cJ9_floorDiv_f86c9 27 = .ok (.lload 4, 2) := ybd_22 4 (by decide +kernel) rfl
theorem dJ9_floorDiv_f86c9_29 : decode cJ9_floorDiv_f86c9 29 = .ok (.lreturn, 1) := ybd_173 (by decide +kernel)
theorem dJ9_floorMod_f86c9_0 : decode cJ9_floorMod_f86c9 0 = .ok (.lload_n 0, 1) := ybd_30 (by decide +kernel)
theorem dJ9_floorMod_f86c9_1 : decode cJ9_floorMod_f86c9 1 = .ok (.lload_n 2, 1) := ybd_32 (by decide +kernel)
theorem dJ9_floorMod_f86c9_2 : decode cJ9_floorMod_f86c9 2 = .ok (.lrem, 1) := ybd_113 (by decide +kernel)
theorem dJ9_floorMod_f86c9_3 : decode cJ9_floorMod_f86c9 3 = .ok (.lstore 4, 2) := ybd_55 4 (by decide +kernel) rfl
theorem dJ9_floorMod_f86c9_5 : decode cJ9_floorMod_f86c9 5 = .ok (.lload_n 0, 1) := ybd_30 (by decide +kernel)
theorem dJ9_floorMod_f86c9_6 : decode cJ9_floorMod_f86c9 6 = .ok (.lload_n 2, 1) := ybd_32 (by decide +kernel)
theorem dJ9_floorMod_f86c9_7 : decode cJ9_floorMod_f86c9 7 = .ok (.lxor, 1) := ybd_131 (by decide +kernel)
theorem dJ9_floorMod_f86c9_8 : decode cJ9_floorMod_f86c9 8 = .ok (.lconst 0, 1) := ybd_9 (by decide +kernel)
theorem dJ9_floorMod_f86c9_9 : decode cJ9_floorMod_f86c9 9 = .ok (.lcmp, 1) := ybd_148 (by decide +kernel)
theorem dJ9_floorMod_f86c9_10 : decode cJ9_floorMod_f86c9 10 = .ok (.ifCond .ge 15, 3) := ybd_156 0 15 (by decide +kernel) (by decide +kernel)
theorem dJ9_floorMod_f86c9_13 : decode cJ9_floorMod_f86c9 13 = .ok (.lload 4, 2) := ybd_22 4 (by decide +kernel) rfl
theorem dJ9_floorMod_f86c9_15 : decode cJ9_floorMod_f86c9 15 = .ok (.lconst 0, 1) := ybd_9 (by decide +kernel)
theorem dJ9_floorMod_f86c9_16 : decode cJ9_floorMod_f86c9 16 = .ok (.lcmp, 1) := ybd_148 (by decide +kernel)
theorem dJ9_floorMod_f86c9_17 : decode cJ9_floorMod_f86c9 17 = .ok (.ifCond .eq 8, 3) := ybd_153 0 8 (by decide +kernel) (by decide +kernel)
theorem dJ9_floorMod_f86c9_20 : decode cJ9_floorMod_f86c9 20 = .ok (.lload 4, 2) := ybd_22 4 (by decide +kernel) rfl
theorem dJ9_floorMod_f86c9_22 : decode cJ9_floorMod_f86c9 22 = .ok (.lload_n 2, 1) := ybd_32 (by decide +kernel)
theorem dJ9_floorMod_f86c9_23 : decode cJ9_floorMod_f86c9 23 = .ok (.ladd, 1) := ybd_97 (by decide +kernel)
theorem dJ9_floorMod_f86c9_24 : decode cJ9_floorMod_f86c9 24 = .ok (.lreturn, 1) := ybd_173 (by decide +kernel)
theorem dJ9_floorMod_f86c9_25 : decode cJ9_floorMod_f86c9 25 = .ok (.lload 4, 2) := ybd_22 4 (by decide +kernel) rfl
theorem dJ9_floorMod_f86c9_27 : decode cJ9_floorMod_f86c9 27 = .ok (.lreturn, 1) := ybd_173 (by decide +kernel)
theorem dJ0_length_8abf5_0 : decode cJ0_length_8abf5 0 = .ok (.aload_n 0, 1) := ybd_42 (by decide +kernel)
theorem dJ0_length_8abf5_1 : decode cJ0_length_8abf5 1 = .ok (.getfield 9, 3) := ybd_180 0 9 (by decide +kernel) rfl
theorem dJ0_length_8abf5_4 : decode cJ0_length_8abf5 4 = .ok (.arraylength, 1) := ybd_190 (by decide +kernel)
theorem dJ0_length_8abf5_5 : decode cJ0_length_8abf5 5 = .ok (.aload_n 0, 1) := ybd_42 (by decide +kernel)
theorem dJ0_length_8abf5_6 : decode cJ0_length_8abf5 6 = .ok (.invokevirtual 335, 3) := ybd_182 1 79 (by decide +kernel) rfl
theorem dJ0_length_8abf5_9 : decode cJ0_length_8abf5 9 = .ok (.ishr, 1) := ybd_122 (by decide +kernel)
theorem dJ0_length_8abf5_10 : decode cJ0_length_8abf5 10 = .ok (.ireturn, 1) := ybd_172 (by decide +kernel)
theorem dJ0_charAt_5068e_0 : decode cJ0_charAt_5068e 0 = .ok (.aload_n 0, 1) := ybd_42 (by decide +kernel)
theorem dJ0_charAt_5068e_1 : decode cJ0_charAt_5068e 1 = .ok (.invokevirtual 492, 3) := ybd_182 1 236 (by decide +kernel) rfl
theorem dJ0_charAt_5068e_4 : decode cJ0_charAt_5068e 4 = .ok (.ifCond .eq 12, 3) := ybd_153 0 12 (by decide +kernel) (by decide +kernel)
theorem dJ0_charAt_5068e_7 : decode cJ0_charAt_5068e 7 = .ok (.aload_n 0, 1) := ybd_42 (by decide +kernel)
theorem dJ0_charAt_5068e_8 : decode cJ0_charAt_5068e 8 = .ok (.getfield 9, 3) := ybd_180 0 9 (by decide +kernel) rfl
theorem dJ0_charAt_5068e_11 : decode cJ0_charAt_5068e 11 = .ok (.iload_n 1, 1) := ybd_27 (by decide +kernel)
theorem dJ0_charAt_5068e_12 : decode cJ0_charAt_5068e 12 = .ok (.invokestatic 495, 3) := ybd_184 1 239 (by decide +kernel) rfl
theorem dJ0_charAt_5068e_15 : decode cJ0_charAt_5068e 15 = .ok (.ireturn, 1) := ybd_172 (by decide +kernel)
theorem dJ0_coder_7d493_0 : decode cJ0_coder_7d493 0 = .ok (.getstatic 38, 3) := ybd_178 0 38 (by decide +kernel) rfl
theorem dJ0_coder_7d493_3 : decode cJ0_coder_7d493 3 = .ok (.ifCond .eq 10, 3) := ybd_153 0 10 (by decide +kernel) (by decide +kernel)
theorem dJ0_coder_7d493_6 : decode cJ0_coder_7d493 6 = .ok (.aload_n 0, 1) := ybd_42 (by decide +kernel)
theorem dJ0_coder_7d493_7 : decode cJ0_coder_7d493 7 = .ok (.getfield 15, 3) := ybd_180 0 15 (by decide +kernel) rfl
theorem dJ0_coder_7d493_10 : decode cJ0_coder_7d493 10 = .ok (.goto 4, 3) := ybd_167 0 4 (by decide +kernel) (by decide +kernel)
theorem dJ0_coder_7d493_14 : decode cJ0_coder_7d493 14 = .ok (.ireturn, 1) := ybd_172 (by decide +kernel)
theorem dJ0_isLatin1_aae02_0 : decode cJ0_isLatin1_aae02 0 = .ok (.getstatic 38, 3) := ybd_178 0 38 (by decide +kernel) rfl
theorem dJ0_isLatin1_aae02_3 : decode cJ0_isLatin1_aae02 3 = .ok (.ifCond .eq 14, 3) := ybd_153 0 14 (by decide +kernel) (by decide +kernel)
theorem dJ0_isLatin1_aae02_6 : decode cJ0_isLatin1_aae02 6 = .ok (.aload_n 0, 1) := ybd_42 (by decide +kernel)
theorem dJ0_isLatin1_aae02_7 : decode cJ0_isLatin1_aae02 7 = .ok (.getfield 15, 3) := ybd_180 0 15 (by decide +kernel) rfl
theorem dJ0_isLatin1_aae02_10 : decode cJ0_isLatin1_aae02 10 = .ok (.ifCond .ne 7, 3) := ybd_154 0 7 (by decide +kernel) (by decide +kernel)
theorem dJ0_isLatin1_aae02_13 : decode cJ0_isLatin1_aae02 13 = .ok (.iconst 1, 1) := ybd_4 (by decide +kernel)
theorem dJ0_isLatin1_aae02_14 : decode cJ0_isLatin1_aae02 14 = .ok (.goto 4, 3) := ybd_167 0 4 (by decide +kernel) (by decide +kernel)
theorem dJ0_isLatin1_aae02_18 : decode cJ0_isLatin1_aae02 18 = .ok (.ireturn, 1) := ybd_172 (by decide +kernel)
theorem dJ0_checkIndex_df160_0 : decode cJ0_checkIndex_df160 0 = .ok (.iload_n 0, 1) := ybd_26 (by decide +kernel)
theorem dJ0_checkIndex_df160_1 : decode cJ0_checkIndex_df160 1 = .ok (.iload_n 1, 1) := ybd_27 (by decide +kernel)
theorem dJ0_checkIndex_df160_2 : decode cJ0_checkIndex_df160 2 = .ok (.getstatic 1053, 3) := ybd_178 4 29 (by decide +kernel) rfl
theorem dJ0_checkIndex_df160_5 : decode cJ0_checkIndex_df160 5 = .ok (.invokestatic 1059, 3) := ybd_184 4 35 (by decide +kernel) rfl
theorem dJ0_checkIndex_df160_8 : decode cJ0_checkIndex_df160 8 = .ok (.pop, 1) := ybd_87 (by decide +kernel)
theorem dJ0_checkIndex_df160_9 : decode cJ0_checkIndex_df160 9 = .ok (.return_, 1) := ybd_177 (by decide +kernel)
theorem dJ1_charAt_3b067_0 : decode cJ1_charAt_3b067 0 = .ok (.iload_n 1, 1) := ybd_27 (by decide +kernel)
theorem dJ1_charAt_3b067_1 : decode cJ1_charAt_3b067 1 = .ok (.aload_n 0, 1) := ybd_42 (by decide +kernel)
theorem dJ1_charAt_3b067_2 : decode cJ1_charAt_3b067 2 = .ok (.arraylength, 1) := ybd_190 (by decide +kernel)
theorem dJ1_charAt_3b067_3 : decode cJ1_charAt_3b067 3 = .ok (.invokestatic 9, 3) := ybd_184 0 9 (by decide +kernel) rfl
theorem dJ1_charAt_3b067_6 : decode cJ1_charAt_3b067 6 = .ok (.aload_n 0, 1) := ybd_42 (by decide +kernel)
theorem dJ1_charAt_3b067_7 : decode cJ1_charAt_3b067 7 = .ok (.iload_n 1, 1) := ybd_27 (by decide +kernel)
theorem dJ1_charAt_3b067_8 : decode cJ1_charAt_3b067 8 = .ok (.baload, 1) := ybd_51 (by decide +kernel)
theorem dJ1_charAt_3b067_9 : decode cJ1_charAt_3b067 9 = .ok (.sipush 255, 3) := ybd_17 0 255 (by decide +kernel) (by decide +kernel)
theorem dJ1_charAt_3b067_12 : decode cJ1_charAt_3b067 12 = .ok (.iand, 1) := ybd_126 (by decide +kernel)
theorem dJ1_charAt_3b067_13 : decode cJ1_charAt_3b067 13 = .ok (.i2c, 1) := ybd_146 (by decide +kernel)
theorem dJ1_charAt_3b067_14 : decode cJ1_charAt_3b067 14 = .ok (.ireturn, 1) := ybd_172 (by decide +kernel)
theorem dJ7_fill_53178_0 : decode cJ7_fill_53178 0 = .ok (.iconst 0, 1) := ybd_3 (by decide +kernel)
theorem dJ7_fill_53178_1 : decode cJ7_fill_53178 1 = .ok (.istore_n 2, 1) := ybd_61 (by decide +kernel)
theorem dJ7_fill_53178_2 : decode cJ7_fill_53178 2 = .ok (.aload_n 0, 1) := ybd_42 (by decide +kernel)
theorem dJ7_fill_53178_3 : decode cJ7_fill_53178 3 = .ok (.arraylength, 1) := ybd_190 (by decide +kernel)
theorem dJ7_fill_53178_4 : decode cJ7_fill_53178 4 = .ok (.istore_n 3, 1) := ybd_62 (by decide +kernel)
theorem dJ7_fill_53178_5 : decode cJ7_fill_53178 5 = .ok (.iload_n 2, 1) := ybd_28 (by decide +kernel)
theorem dJ7_fill_53178_6 : decode cJ7_fill_53178 6 = .ok (.iload_n 3, 1) := ybd_29 (by decide +kernel)
theorem dJ7_fill_53178_7 : decode cJ7_fill_53178 7 = .ok (.if_icmp .ge 13, 3) := ybd_162 0 13 (by decide +kernel) (by decide +kernel)
theorem dJ7_fill_53178_10 : decode cJ7_fill_53178 10 = .ok (.aload_n 0, 1) := ybd_42 (by decide +kernel)
theorem dJ7_fill_53178_11 : decode cJ7_fill_53178 11 = .ok (.iload_n 2, 1) := ybd_28 (by decide +kernel)
theorem dJ7_fill_53178_12 : decode cJ7_fill_53178 12 = .ok (.iload_n 1, 1) := ybd_27 (by decide +kernel)
theorem dJ7_fill_53178_13 : decode cJ7_fill_53178 13 = .ok (.iastore, 1) := ybd_79 (by decide +kernel)
theorem dJ7_fill_53178_14 : decode cJ7_fill_53178 14 = .ok (.iinc 2 1, 3) := ybd_132 2 1 (by decide +kernel) (by decide +kernel)
theorem dJ7_fill_53178_17 : decode cJ7_fill_53178 17 = .ok (.goto (-12), 3) := ybd_167 255 244 (by decide +kernel) (by decide +kernel)
theorem dJ7_fill_53178_20 : decode cJ7_fill_53178 20 = .ok (.return_, 1) := ybd_177 (by decide +kernel)
theorem dJ3_checkIndex_8e157_0 : decode cJ3_checkIndex_8e157 0 = .ok (.iload_n 0, 1) := ybd_26 (by decide +kernel)
theorem dJ3_checkIndex_8e157_1 : decode cJ3_checkIndex_8e157 1 = .ok (.ifCond .lt 8, 3) := ybd_155 0 8 (by decide +kernel) (by decide +kernel)
theorem dJ3_checkIndex_8e157_4 : decode cJ3_checkIndex_8e157 4 = .ok (.iload_n 0, 1) := ybd_26 (by decide +kernel)
theorem dJ3_checkIndex_8e157_5 : decode cJ3_checkIndex_8e157 5 = .ok (.iload_n 1, 1) := ybd_27 (by decide +kernel)
theorem dJ3_checkIndex_8e157_6 : decode cJ3_checkIndex_8e157 6 = .ok (.if_icmp .lt 10, 3) := ybd_161 0 10 (by decide +kernel) (by decide +kernel)
theorem dJ3_checkIndex_8e157_16 : decode cJ3_checkIndex_8e157 16 = .ok (.iload_n 0, 1) := ybd_26 (by decide +kernel)
theorem dJ3_checkIndex_8e157_17 : decode cJ3_checkIndex_8e157 17 = .ok (.ireturn, 1) := ybd_172 (by decide +kernel)
end
section
/-! 11b.str.lean.txt -/
/-- a void call that touches nothing -/
def s_Sv : Array Value → State → Outcome → State → Prop := fun _ st o t => o = .returned none ∧ t.heap = st.heap
/-- q is a String of Latin-1 letters: tx.1 of them, tx.2 j the j-th -/
def sO (tx : Nat × (Nat → Int32)) (q : Nat) (A : Nat → Prop) (U : State) (H : Heap) : Prop := ∃ v : Nat, va_O RJ0 q A U H ∧ va_OF RJ0 "coder" "B" (.int 0) q A U H ∧ va_OF RJ0 "value" "[B" (.ref v) q A U H ∧ va_T .byte v tx.1 (fun j => .int (tx.2 j)) A U H
theorem sO.moved {tx : Nat × (Nat → Int32)} {q : Nat} {A : Nat → Prop} {u U : State} {H : Heap} (hvm : u.vm.Alike U.vm) (h : sO tx q A u H) : sO tx q A U H := h.elim fun v h => ⟨v, va_O.moved hvm h.1, va_OF.moved hvm h.2.1, va_OF.moved hvm h.2.2.1, va_T.moved hvm h.2.2.2⟩
theorem sO.kept {tx : Nat × (Nat → Int32)} {q : Nat} {A : Nat → Prop} {U : State} {H H1 : Heap} (h : sO tx q A U H) (hq : ∀ a : Nat, a < H.size → ¬ A a → H1[a]? = H[a]?) : sO tx q A U H1 := h.elim fun v h => ⟨v, h.1.kept hq, h.2.1.kept hq, h.2.2.1.kept hq, h.2.2.2.kept hq⟩
theorem sO.narrow {tx : Nat × (Nat → Int32)} {q : Nat} {A B : Nat → Prop} {U : State} {H : Heap} (h : sO tx q A U H) (hAB : ∀ q, B q → A q) : sO tx q B U H := h.elim fun v h => ⟨v, h.1.narrow hAB, h.2.1.narrow hAB, h.2.2.1.narrow hAB, h.2.2.2.narrow hAB⟩
/-- the two statics that String's own code reads -/
def sZ (A : Nat → Prop) (U : State) (H : Heap) : Prop := va_Z RJ0 "COMPACT_STRINGS" "Z" (.int 1) A U H ∧ va_Zq RJ3 "SIOOBE_FORMATTER" "Ljava/util/function/BiFunction;" A U H
theorem sZ.moved {A : Nat → Prop} {u U : State} {H : Heap} (hvm : u.vm.Alike U.vm) (h : sZ A u H) : sZ A U H := ⟨va_Z.moved hvm h.1, va_Zq.moved hvm h.2⟩
theorem sZ.kept {A : Nat → Prop} {U : State} {H H1 : Heap} (h : sZ A U H) (hq : ∀ a : Nat, a < H.size → ¬ A a → H1[a]? = H[a]?) : sZ A U H1 := ⟨h.1.kept hq, h.2.kept hq⟩
theorem sZ.narrow {A B : Nat → Prop} {U : State} {H : Heap} (h : sZ A U H) (hAB : ∀ q, B q → A q) : sZ B U H := ⟨h.1.narrow hAB, h.2.narrow hAB⟩
def sP (tx : Nat × (Nat → Int32)) (q : Nat) (U : State) : Prop := sO tx q (fun _ => False) U U.heap ∧ sZ (fun _ => False) U U.heap
theorem sP.blind {tx : Nat × (Nat → Int32)} {q : Nat} {U : State} {g : JFrame} {mk : MethodId} {a : Array Value} (h : sP tx q U) : sP tx q (U.calling g mk a) := ⟨sO.moved (u := U) (U := U.calling g mk a) (Vm.Alike.refl U.vm) h.1, sZ.moved (u := U) (U := U.calling g mk a) (Vm.Alike.refl U.vm) h.2⟩
section JDKS
variable {p : Program} {l : Launch} {e : Env} {R : Room} {s : State} {m : MethodId} {args : Array Value} {below : List Frame} {meth : Method} {c : Code} {H : Heap} {locs : List Loc} {cells slots : Nat} {Q : State → Prop}
variable {cc : ByteArray} {pc : Nat} {ls : Array Slot} {rest : List Value}
theorem s_callSv {a : Array Value} {st0 : List Value} (hr : CallRun p l e R s m args below meth c H locs cells slots 0 0 (F0 m pc ls st0) rest (s_Sv a) (fun _ => False)) (kk : W p l e R s m args below meth c H locs cells slots Q (F0 m (pc + 3) ls rest)) : W p l e R s m args below meth c H locs cells slots Q (F0 m pc ls st0) := by
  intro T hT X
  obtain ⟨v, st₀, t, T', L, h0, X', hL, e1, ⟨hv, hh⟩, st⟩ := hr T hT X
  cases hv
  obtain ⟨t2, a1, b1⟩ := kk T' (by rw [e1, hh, h0]) (Stand.forget X' (fun q h => (hL q h).elim))
  exact ⟨t2, st t2 a1, b1⟩
theorem s_callV {y : MethodName} {bytes : ByteArray} {maxL nL n index fr lo : Nat} {ret : Option FieldType} {Ts ws : List Cond} {As : List Value} {post : Int32 → Prop} {own C : String} {q : Nat} {P : State → Prop} (F : CallFix p m c cc nL s args Ts own) (hM : Met l y ws { frames := fr, cells := 0, slots := 0, locals := lo } (va_Pc (.ref q :: As) P) (vp_Si post) 0 0 (fun _ => False)) (cw : CallW R s args own C index y bytes maxL ret ws { frames := fr, cells := 0, slots := 0, locals := lo } 0 0 n) (hr : ∃ cell : Cell, H[q]? = some cell ∧ cell.vm.isStatics = false ∧ s.vm.findClass C = some cell.cls) (hB : ∀ (a : Array Value) (U : State) (g : JFrame) (mk : MethodId), P U → P (U.calling g mk a)) (hP : ∀ U : State, U.heap = H → s.WarmedH U.vm → P U) (hn : As.length = n) (hsz : ls.size = nL) {st : List Value} (hst : st = As.reverse ++ .ref q :: rest) (hW : 2 * (F0 m pc ls st).monitorRoom + (rest.map fun v => v.category).sum ≤ 8) (hdg : decode cc pc = .ok (.invokevirtual index, 3)) (hf : cells ≤ R.cells ∧ slots ≤ R.slots) (kk : ∀ r : Int32, post r → W p l e R s m args below meth c H locs cells slots Q (F0 m (pc + 3) ls (.int r :: rest))) : W p l e R s m args below meth c H locs cells slots Q (F0 m pc ls st) :=
  vp_callSi (W.runV F hM cw ⟨fun a U g mk q => ⟨q.1, hB a U g mk q.2⟩, hr, fun U hU hW => ⟨rfl, hP U hU hW⟩⟩ rfl hn hsz hst hW hdg hf) kk
theorem s_stat {y : MethodName} {bytes : ByteArray} {maxL nL n index fr lo : Nat} {ret : Option FieldType} {Ts ws : List Cond} {As : List Value} {post : Int32 → Prop} {own : String} {P : State → Prop} (F : CallFix p m c cc nL s args Ts own) (hM : Met l y ws { frames := fr, cells := 0, slots := 0, locals := lo } (va_Pc As P) (vp_Si post) 0 0 (fun _ => False)) (cw : CallB R s args own index y bytes maxL ret ws { frames := fr, cells := 0, slots := 0, locals := lo } 0 0 n ∧ (Cond.static y).before args s = true) (hB : ∀ (a : Array Value) (U : State) (g : JFrame) (mk : MethodId), P U → P (U.calling g mk a)) (hP : ∀ U : State, U.heap = H → s.WarmedH U.vm → P U) (hn : As.length = n) (hsz : ls.size = nL) {st : List Value} (hst : st = As.reverse ++ rest) (hW : 2 * (F0 m pc ls st).monitorRoom + (rest.map fun v => v.category).sum ≤ 8) (hdg : decode cc pc = .ok (.invokestatic index, 3)) (hf : cells ≤ R.cells ∧ slots ≤ R.slots) (kk : ∀ r : Int32, post r → W p l e R s m args below meth c H locs cells slots Q (F0 m (pc + 3) ls (.int r :: rest))) : W p l e R s m args below meth c H locs cells slots Q (F0 m pc ls st) :=
  vp_callSi (W.runS F hM cw ⟨fun a U g mk q => ⟨q.1, hB a U g mk q.2⟩, fun U hU hW => ⟨rfl, hP U hU hW⟩⟩ rfl hn hsz hst hW hdg hf) kk
theorem s_statv {y : MethodName} {bytes : ByteArray} {maxL nL n index fr lo : Nat} {ret : Option FieldType} {Ts ws : List Cond} {As : List Value} {own : String} {P : State → Prop} (F : CallFix p m c cc nL s args Ts own) (hM : Met l y ws { frames := fr, cells := 0, slots := 0, locals := lo } (va_Pc As P) s_Sv 0 0 (fun _ => False)) (cw : CallB R s args own index y bytes maxL ret ws { frames := fr, cells := 0, slots := 0, locals := lo } 0 0 n ∧ (Cond.static y).before args s = true) (hB : ∀ (a : Array Value) (U : State) (g : JFrame) (mk : MethodId), P U → P (U.calling g mk a)) (hP : ∀ U : State, U.heap = H → s.WarmedH U.vm → P U) (hn : As.length = n) (hsz : ls.size = nL) {st : List Value} (hst : st = As.reverse ++ rest) (hW : 2 * (F0 m pc ls st).monitorRoom + (rest.map fun v => v.category).sum ≤ 8) (hdg : decode cc pc = .ok (.invokestatic index, 3)) (hf : cells ≤ R.cells ∧ slots ≤ R.slots) (kk : W p l e R s m args below meth c H locs cells slots Q (F0 m (pc + 3) ls rest)) : W p l e R s m args below meth c H locs cells slots Q (F0 m pc ls st) :=
  s_callSv (W.runS F hM cw ⟨fun a U g mk q => ⟨q.1, hB a U g mk q.2⟩, fun U hU hW => ⟨rfl, hP U hU hW⟩⟩ rfl hn hsz hst hW hdg hf) kk
end JDKS
/-- the letter that charAt gives -/
def s_ch (x : Int32) : Int32 := ((x &&& 255).toUInt32 % 65536).toInt32
set_option maxHeartbeats 4000000 in
set_option maxRecDepth 100000 in
theorem j_coder (l : Launch) {tx : Nat × (Nat → Int32)} {q : Nat} : Met l yJ0_coder_7d493 (Cond.code yJ0_coder_7d493 cJ0_coder_7d493 1 (some .byte) :: wsM) { frames := 1, cells := 0, slots := 0, locals := 0 } (va_Pc [.ref q] (sP tx q)) (vp_Si (fun r => r = 0)) 0 0 (fun _ => False) := by
  refine pro_in (cc := cJ0_coder_7d493) (maxL := 1) (ret := (some .byte)) (by exact pn_RJ0) rfl (by exact Nat.le_of_ble_eq_true rfl) (fun p e s m below meth c ls hx hb hr hts hown hlocks hml hv hl => ?_)
  have hS : va_S (fun _ : Nat => False) s.heap s.heap [] := va_S.rf
  have hl : lv_has ls 1 [(0, .ref q)] := hl
  obtain ⟨⟨v, h1, h2, h3, h4⟩, h5, h6⟩ := hv
  refine va_gets (v := .int 1) hx hb h5 hS hown (hts _ (.tail _ qM_68)) (fun _ h => h) dJ0_coder_7d493_0 ?_
  refine lv_if_eq (tgt := 13) hx hb dJ0_coder_7d493_3 (by decide) (fun h => absurd h (by decide)) (fun _ => ?_)
  refine lv_aload_n hx hb dJ0_coder_7d493_6 rfl (lv_at hl 0 rfl) ?_
  refine vk_getf hx hb h2 hS hown (hts _ (.tail _ qM_69)) (fun _ h => h) dJ0_coder_7d493_7 ?_
  refine lv_goto (tgt := 14) hx hb dJ0_coder_7d493_10 (by decide) ?_
  exact W.zret (v := 0) hx hb hr rfl (fun t ht hW => ⟨0, rfl, rfl, ht⟩) (fun _ h => absurd h List.not_mem_nil) dJ0_coder_7d493_14
set_option maxHeartbeats 4000000 in
set_option maxRecDepth 100000 in
theorem j_isLatin1 (l : Launch) {tx : Nat × (Nat → Int32)} {q : Nat} : Met l yJ0_isLatin1_aae02 (Cond.code yJ0_isLatin1_aae02 cJ0_isLatin1_aae02 1 (some .boolean) :: wsM) { frames := 1, cells := 0, slots := 0, locals := 0 } (va_Pc [.ref q] (sP tx q)) (vp_Si (fun r => r = 1)) 0 0 (fun _ => False) := by
  refine pro_in (cc := cJ0_isLatin1_aae02) (maxL := 1) (ret := (some .boolean)) (by exact pn_RJ0) rfl (by exact Nat.le_of_ble_eq_true rfl) (fun p e s m below meth c ls hx hb hr hts hown hlocks hml hv hl => ?_)
  have hS : va_S (fun _ : Nat => False) s.heap s.heap [] := va_S.rf
  have hl : lv_has ls 1 [(0, .ref q)] := hl
  obtain ⟨⟨v, h1, h2, h3, h4⟩, h5, h6⟩ := hv
  refine va_gets (v := .int 1) hx hb h5 hS hown (hts _ (.tail _ qM_68)) (fun _ h => h) dJ0_isLatin1_aae02_0 ?_
  refine lv_if_eq (tgt := 17) hx hb dJ0_isLatin1_aae02_3 (by decide) (fun h => absurd h (by decide)) (fun _ => ?_)
  refine lv_aload_n hx hb dJ0_isLatin1_aae02_6 rfl (lv_at hl 0 rfl) ?_
  refine vk_getf hx hb h2 hS hown (hts _ (.tail _ qM_69)) (fun _ h => h) dJ0_isLatin1_aae02_7 ?_
  refine lv_if_ne (tgt := 17) hx hb dJ0_isLatin1_aae02_10 (by decide) (fun h => absurd rfl h) (fun _ => ?_)
  refine lv_iconst (v := 1) hx hb dJ0_isLatin1_aae02_13 (by decide) ?_
  refine lv_goto (tgt := 18) hx hb dJ0_isLatin1_aae02_14 (by decide) ?_
  exact W.zret (v := 1) hx hb hr rfl (fun t ht hW => ⟨1, rfl, rfl, ht⟩) (fun _ h => absurd h List.not_mem_nil) dJ0_isLatin1_aae02_18
set_option maxHeartbeats 4000000 in
set_option maxRecDepth 100000 in
theorem j_length (l : Launch) {tx : Nat × (Nat → Int32)} {q : Nat} : Met l yJ0_length_8abf5 (Cond.code yJ0_length_8abf5 cJ0_length_8abf5 1 (some .int) :: wsM) { frames := 2, cells := 0, slots := 0, locals := 20 } (va_Pc [.ref q] (sP tx q)) (vp_Si (fun r => r = nI tx.1 >>> (0 &&& 31))) 0 0 (fun _ => False) := by
  refine pro_in (cc := cJ0_length_8abf5) (maxL := 1) (ret := (some .int)) (by exact pn_RJ0) rfl (by exact Nat.le_of_ble_eq_true rfl) (fun p e s m below meth c ls hx hb hr hts hown hlocks hml hv hl => ?_)
  have hS : va_S (fun _ : Nat => False) s.heap s.heap [] := va_S.rf
  have hl : lv_has ls 1 [(0, .ref q)] := hl
  obtain ⟨⟨v, h1, h2, h3, h4⟩, h5, h6⟩ := id hv
  refine lv_aload_n hx hb dJ0_length_8abf5_0 rfl (lv_at hl 0 rfl) ?_
  refine vk_getf hx hb h3 hS hown (hts _ (.tail _ qM_63)) (fun _ h => h) dJ0_length_8abf5_1 ?_
  refine va_tlen (v := nI tx.1) hx hb h4 hS rfl dJ0_length_8abf5_4 ?_
  refine lv_aload_n hx hb dJ0_length_8abf5_5 rfl (lv_at hl 0 rfl) ?_
  refine s_callV (As := []) (rest := [.int (nI tx.1)]) ⟨hx, hb, hml, hown, hts⟩ (j_coder l (tx := tx) (q := q)) (cwV 0 hts (gmV qM_64 qM_65 qM_66 qM_61 qM_67) rfl rfl rfl (by decide +kernel) ⟨Nat.le_of_ble_eq_true rfl, Nat.le_of_ble_eq_true rfl⟩) (h1.elim fun cell h => ⟨cell, h.1, h.2.1, h.2.2.1⟩) (fun _ _ _ _ h => h.blind) (fun U hU hW => ⟨by rw [hU]; exact sO.moved hW.alike hv.1, by rw [hU]; exact sZ.moved hW.alike hv.2⟩) rfl hl.1 rfl (lv_room (Nat.le_of_ble_eq_true rfl)) dJ0_length_8abf5_6 ⟨Nat.zero_le _, Nat.zero_le _⟩ (fun r hq => ?_)
  refine lv_to hq ?_
  refine lv_ishr hx hb dJ0_length_8abf5_9 ?_
  exact W.iret (v := (nI tx.1 >>> (0 &&& 31))) hx hb hr (fun t ht hW => ⟨(nI tx.1 >>> (0 &&& 31)), rfl, rfl, ht⟩) (fun _ h => absurd h List.not_mem_nil) dJ0_length_8abf5_10
set_option maxHeartbeats 4000000 in
set_option maxRecDepth 100000 in
theorem j_ck3n (l : Launch) {i n : Nat} (hi : i < n) (hn : n < 2 ^ 31) : Met l yJ3_checkIndex_8e157 (Cond.code yJ3_checkIndex_8e157 cJ3_checkIndex_8e157 3 (some .int) :: wsM) { frames := 1, cells := 0, slots := 0, locals := 0 } (va_Pc [.int (nI i), .int (nI n), .null] (fun _ => True)) (vp_Si (fun r => r = nI i)) 0 0 (fun _ => False) := by
  refine pro_in (cc := cJ3_checkIndex_8e157) (maxL := 3) (ret := (some .int)) (by exact pn_RJ3) rfl (by exact Nat.le_of_ble_eq_true rfl) (fun p e s m below meth c ls hx hb hr hts hown hlocks hml hv hl => ?_)
  have hS : va_S (fun _ : Nat => False) s.heap s.heap [] := va_S.rf
  have hl : lv_has ls 3 [(0, .int (nI i)), (1, .int (nI n)), (2, .null)] := hl
  refine lv_iload_n hx hb dJ3_checkIndex_8e157_0 rfl (lv_at hl 0 rfl) ?_
  refine lv_if_lt (tgt := 9) hx hb dJ3_checkIndex_8e157_1 (by decide) (fun h => absurd h (nI_pos (Nat.lt_trans hi hn))) (fun _ => ?_)
  refine lv_iload_n hx hb dJ3_checkIndex_8e157_4 rfl (lv_at hl 0 rfl) ?_
  refine lv_iload_n hx hb dJ3_checkIndex_8e157_5 rfl (lv_at hl 1 rfl) ?_
  refine lv_icmp_lt (tgt := 16) hx hb dJ3_checkIndex_8e157_6 (by decide) (fun _ => ?_) (fun h => absurd (nI_lt hi hn) h)
  refine lv_iload_n hx hb dJ3_checkIndex_8e157_16 rfl (lv_at hl 0 rfl) ?_
  exact W.iret (v := (nI i)) hx hb hr (fun t ht hW => ⟨(nI i), rfl, rfl, ht⟩) (fun _ h => absurd h List.not_mem_nil) dJ3_checkIndex_8e157_17
set_option maxHeartbeats 4000000 in
set_option maxRecDepth 100000 in
theorem j_ck3r (l : Launch) {i n : Nat} {z : Nat} (hi : i < n) (hn : n < 2 ^ 31) : Met l yJ3_checkIndex_8e157 (Cond.code yJ3_checkIndex_8e157 cJ3_checkIndex_8e157 3 (some .int) :: wsM) { frames := 1, cells := 0, slots := 0, locals := 0 } (va_Pc [.int (nI i), .int (nI n), .ref z] (fun _ => True)) (vp_Si (fun r => r = nI i)) 0 0 (fun _ => False) := by
  refine pro_in (cc := cJ3_checkIndex_8e157) (maxL := 3) (ret := (some .int)) (by exact pn_RJ3) rfl (by exact Nat.le_of_ble_eq_true rfl) (fun p e s m below meth c ls hx hb hr hts hown hlocks hml hv hl => ?_)
  have hS : va_S (fun _ : Nat => False) s.heap s.heap [] := va_S.rf
  have hl : lv_has ls 3 [(0, .int (nI i)), (1, .int (nI n)), (2, .ref z)] := hl
  refine lv_iload_n hx hb dJ3_checkIndex_8e157_0 rfl (lv_at hl 0 rfl) ?_
  refine lv_if_lt (tgt := 9) hx hb dJ3_checkIndex_8e157_1 (by decide) (fun h => absurd h (nI_pos (Nat.lt_trans hi hn))) (fun _ => ?_)
  refine lv_iload_n hx hb dJ3_checkIndex_8e157_4 rfl (lv_at hl 0 rfl) ?_
  refine lv_iload_n hx hb dJ3_checkIndex_8e157_5 rfl (lv_at hl 1 rfl) ?_
  refine lv_icmp_lt (tgt := 16) hx hb dJ3_checkIndex_8e157_6 (by decide) (fun _ => ?_) (fun h => absurd (nI_lt hi hn) h)
  refine lv_iload_n hx hb dJ3_checkIndex_8e157_16 rfl (lv_at hl 0 rfl) ?_
  exact W.iret (v := (nI i)) hx hb hr (fun t ht hW => ⟨(nI i), rfl, rfl, ht⟩) (fun _ h => absurd h List.not_mem_nil) dJ3_checkIndex_8e157_17
set_option maxHeartbeats 4000000 in
set_option maxRecDepth 100000 in
theorem j_ck0 (l : Launch) {i n : Nat} (hi : i < n) (hn : n < 2 ^ 31) : Met l yJ0_checkIndex_df160 (Cond.code yJ0_checkIndex_df160 cJ0_checkIndex_df160 2 none :: wsM) { frames := 2, cells := 0, slots := 0, locals := 22 } (va_Pc [.int (nI i), .int (nI n)] (fun U => sZ (fun _ => False) U U.heap)) s_Sv 0 0 (fun _ => False) := by
  refine pro_in (cc := cJ0_checkIndex_df160) (maxL := 2) (ret := none) (by exact pn_RJ0) rfl (by exact Nat.le_of_ble_eq_true rfl) (fun p e s m below meth c ls hx hb hr hts hown hlocks hml hv hl => ?_)
  have hS : va_S (fun _ : Nat => False) s.heap s.heap [] := va_S.rf
  have hl : lv_has ls 2 [(0, .int (nI i)), (1, .int (nI n))] := hl
  obtain ⟨h5, h6⟩ := hv
  refine lv_iload_n hx hb dJ0_checkIndex_df160_0 rfl (lv_at hl 0 rfl) ?_
  refine lv_iload_n hx hb dJ0_checkIndex_df160_1 rfl (lv_at hl 1 rfl) ?_
  rcases h6 with h6 | ⟨z, h6⟩
  · refine va_gets (v := .null) hx hb h6 hS hown (hts _ (.tail _ qM_85)) (fun _ h => h) dJ0_checkIndex_df160_2 ?_
    refine s_stat (As := [.int (nI i), .int (nI n), .null]) (rest := []) ⟨hx, hb, hml, hown, hts⟩ (j_ck3n l hi hn) ⟨callB_of 3 hts (gmIn (L := []) (fun _ h => absurd h List.not_mem_nil) qM_89) rfl rfl rfl (hts _ (.tail _ qM_88)) (hts _ (.tail _ qM_86)) (by decide +kernel) ⟨Nat.le_of_ble_eq_true rfl, Nat.le_of_ble_eq_true rfl⟩, hts _ (.tail _ qM_87)⟩ (fun _ _ _ _ h => h) (fun _ _ _ => trivial) rfl hl.1 rfl (lv_room (Nat.le_of_ble_eq_true rfl)) dJ0_checkIndex_df160_5 ⟨Nat.zero_le _, Nat.zero_le _⟩ (fun r hq => ?_)
    refine lv_pop hx hb dJ0_checkIndex_df160_8 rfl ?_
    exact W.vret hx hb hr (fun t ht hW => ⟨rfl, ht⟩) (fun _ h => absurd h List.not_mem_nil) dJ0_checkIndex_df160_9
  · refine va_gets (v := .ref z) hx hb h6 hS hown (hts _ (.tail _ qM_85)) (fun _ h => h) dJ0_checkIndex_df160_2 ?_
    refine s_stat (As := [.int (nI i), .int (nI n), .ref z]) (rest := []) ⟨hx, hb, hml, hown, hts⟩ (j_ck3r l hi hn) ⟨callB_of 3 hts (gmIn (L := []) (fun _ h => absurd h List.not_mem_nil) qM_89) rfl rfl rfl (hts _ (.tail _ qM_88)) (hts _ (.tail _ qM_86)) (by decide +kernel) ⟨Nat.le_of_ble_eq_true rfl, Nat.le_of_ble_eq_true rfl⟩, hts _ (.tail _ qM_87)⟩ (fun _ _ _ _ h => h) (fun _ _ _ => trivial) rfl hl.1 rfl (lv_room (Nat.le_of_ble_eq_true rfl)) dJ0_checkIndex_df160_5 ⟨Nat.zero_le _, Nat.zero_le _⟩ (fun r hq => ?_)
    refine lv_pop hx hb dJ0_checkIndex_df160_8 rfl ?_
    exact W.vret hx hb hr (fun t ht hW => ⟨rfl, ht⟩) (fun _ h => absurd h List.not_mem_nil) dJ0_checkIndex_df160_9
set_option maxHeartbeats 4000000 in
set_option maxRecDepth 100000 in
theorem j_ch1 (l : Launch) {v k n : Nat} {f : Nat → Int32} (hk : k < n) (hn : n < 2 ^ 31) (hc : narrow .char (.int (s_ch (f k))) = .int (s_ch (f k))) : Met l yJ1_charAt_3b067 (Cond.code yJ1_charAt_3b067 cJ1_charAt_3b067 2 (some .char) :: wsM) { frames := 3, cells := 0, slots := 0, locals := 44 } (va_Pc [.ref v, .int (nI k)] (fun U => va_T .byte v n (fun j => .int (f j)) (fun _ => False) U U.heap ∧ sZ (fun _ => False) U U.heap)) (vp_Si (fun r => r = s_ch (f k))) 0 0 (fun _ => False) := by
  refine pro_in (cc := cJ1_charAt_3b067) (maxL := 2) (ret := (some .char)) (by exact pn_RJ1) rfl (by exact Nat.le_of_ble_eq_true rfl) (fun p e s m below meth c ls hx hb hr hts hown hlocks hml hv hl => ?_)
  have hS : va_S (fun _ : Nat => False) s.heap s.heap [] := va_S.rf
  have hl : lv_has ls 2 [(0, .ref v), (1, .int (nI k))] := hl
  obtain ⟨h4, h5⟩ := hv
  refine lv_iload_n hx hb dJ1_charAt_3b067_0 rfl (lv_at hl 1 rfl) ?_
  refine lv_aload_n hx hb dJ1_charAt_3b067_1 rfl (lv_at hl 0 rfl) ?_
  refine va_tlen (v := nI n) hx hb h4 hS rfl dJ1_charAt_3b067_2 ?_
  refine s_statv (As := [.int (nI k), .int (nI n)]) (rest := []) ⟨hx, hb, hml, hown, hts⟩ (j_ck0 l hk hn) ⟨callB_of 2 hts (gmIn (L := []) (fun _ h => absurd h List.not_mem_nil) qM_84) rfl rfl rfl (hts _ (.tail _ qM_61)) (hts _ (.tail _ qM_82)) (by decide +kernel) ⟨Nat.le_of_ble_eq_true rfl, Nat.le_of_ble_eq_true rfl⟩, hts _ (.tail _ qM_83)⟩ (fun _ U g mk h => sZ.moved (u := U) (Vm.Alike.refl U.vm) h) (fun U hU hW => by rw [hU]; exact sZ.moved hW.alike h5) rfl hl.1 rfl (lv_room (Nat.le_of_ble_eq_true rfl)) dJ1_charAt_3b067_3 ⟨Nat.zero_le _, Nat.zero_le _⟩ ?_
  refine lv_aload_n hx hb dJ1_charAt_3b067_6 rfl (lv_at hl 0 rfl) ?_
  refine lv_iload_n hx hb dJ1_charAt_3b067_7 rfl (lv_at hl 1 rfl) ?_
  refine va_tb (v := .int (f k)) hx hb h4 hS (vp_in_nI hk hn) (by rw [nI_clamp (Nat.lt_trans hk hn)]) dJ1_charAt_3b067_8 ?_
  refine lv_sipush (v := 255) hx hb dJ1_charAt_3b067_9 (by decide) ?_
  refine lv_iand hx hb dJ1_charAt_3b067_12 ?_
  refine lv_i2c (v := s_ch (f k)) hx hb dJ1_charAt_3b067_13 rfl ?_
  exact W.zret (v := (s_ch (f k))) hx hb hr hc (fun t ht hW => ⟨(s_ch (f k)), rfl, rfl, ht⟩) (fun _ h => absurd h List.not_mem_nil) dJ1_charAt_3b067_14
set_option maxHeartbeats 4000000 in
set_option maxRecDepth 100000 in
theorem j_charAt (l : Launch) {tx : Nat × (Nat → Int32)} {q : Nat} {k : Nat} (hk : k < tx.1) (hn : tx.1 < 2 ^ 31) (hc : narrow .char (.int (s_ch (tx.2 k))) = .int (s_ch (tx.2 k))) : Met l yJ0_charAt_5068e (Cond.code yJ0_charAt_5068e cJ0_charAt_5068e 2 (some .char) :: wsM) { frames := 4, cells := 0, slots := 0, locals := 66 } (va_Pc [.ref q, .int (nI k)] (sP tx q)) (vp_Si (fun r => r = s_ch (tx.2 k))) 0 0 (fun _ => False) := by
  refine pro_in (cc := cJ0_charAt_5068e) (maxL := 2) (ret := (some .char)) (by exact pn_RJ0) rfl (by exact Nat.le_of_ble_eq_true rfl) (fun p e s m below meth c ls hx hb hr hts hown hlocks hml hv hl => ?_)
  have hS : va_S (fun _ : Nat => False) s.heap s.heap [] := va_S.rf
  have hl : lv_has ls 2 [(0, .ref q), (1, .int (nI k))] := hl
  obtain ⟨⟨v, h1, h2, h3, h4⟩, h5⟩ := id hv
  refine lv_aload_n hx hb dJ0_charAt_5068e_0 rfl (lv_at hl 0 rfl) ?_
  refine s_callV (As := []) (rest := []) ⟨hx, hb, hml, hown, hts⟩ (j_isLatin1 l (tx := tx) (q := q)) (cwV 0 hts (gmV qM_74 qM_75 qM_76 qM_61 qM_77) rfl rfl rfl (by decide +kernel) ⟨Nat.le_of_ble_eq_true rfl, Nat.le_of_ble_eq_true rfl⟩) (h1.elim fun cell h => ⟨cell, h.1, h.2.1, h.2.2.1⟩) (fun _ _ _ _ h => h.blind) (fun U hU hW => ⟨by rw [hU]; exact sO.moved hW.alike hv.1, by rw [hU]; exact sZ.moved hW.alike hv.2⟩) rfl hl.1 rfl (lv_room (Nat.le_of_ble_eq_true rfl)) dJ0_charAt_5068e_1 ⟨Nat.zero_le _, Nat.zero_le _⟩ (fun r hq => ?_)
  refine lv_to hq ?_
  refine lv_if_eq (tgt := 16) hx hb dJ0_charAt_5068e_4 (by decide) (fun h => absurd h (by decide)) (fun _ => ?_)
  refine lv_aload_n hx hb dJ0_charAt_5068e_7 rfl (lv_at hl 0 rfl) ?_
  refine vk_getf hx hb h3 hS hown (hts _ (.tail _ qM_63)) (fun _ h => h) dJ0_charAt_5068e_8 ?_
  refine lv_iload_n hx hb dJ0_charAt_5068e_11 rfl (lv_at hl 1 rfl) ?_
  refine s_stat (As := [.ref v, .int (nI k)]) (rest := []) ⟨hx, hb, hml, hown, hts⟩ (j_ch1 l (v := v) (n := tx.1) (f := tx.2) hk hn hc) ⟨callB_of 2 hts (gmIn (L := []) (fun _ h => absurd h List.not_mem_nil) qM_81) rfl rfl rfl (hts _ (.tail _ qM_80)) (hts _ (.tail _ qM_78)) (by decide +kernel) ⟨Nat.le_of_ble_eq_true rfl, Nat.le_of_ble_eq_true rfl⟩, hts _ (.tail _ qM_79)⟩ (fun _ U g mk h => ⟨va_T.moved (u := U) (Vm.Alike.refl U.vm) h.1, sZ.moved (u := U) (Vm.Alike.refl U.vm) h.2⟩) (fun U hU hW => ⟨by rw [hU]; exact va_T.moved hW.alike h4, by rw [hU]; exact sZ.moved hW.alike h5⟩) rfl hl.1 rfl (lv_room (Nat.le_of_ble_eq_true rfl)) dJ0_charAt_5068e_12 ⟨Nat.zero_le _, Nat.zero_le _⟩ (fun r hq => ?_)
  refine lv_to hq ?_
  exact W.zret (v := (s_ch (tx.2 k))) hx hb hr hc (fun t ht hW => ⟨(s_ch (tx.2 k)), rfl, rfl, ht⟩) (fun _ h => absurd h List.not_mem_nil) dJ0_charAt_5068e_15
/-- the text of a String constant -/
def sTx (t : String) : Nat × (Nat → Int32) := (t.length, fun j => Int32.ofNat (t.toList.getD j 'a').toNat)
def sT (tx : Nat × (Nat → Int32)) : Prop := tx.1 < 2 ^ 31 ∧ ∀ k, k < tx.1 → narrow .char (.int (s_ch (tx.2 k))) = .int (s_ch (tx.2 k))
theorem sTx_ok {t : String} (h : (decide (t.length < 2 ^ 31) && (List.range t.length).all (fun k => decide (s_ch ((sTx t).2 k) = (sTx t).2 k) && decide (0 ≤ (sTx t).2 k) && decide ((sTx t).2 k < 128))) = true) : sT (sTx t) := by
  obtain ⟨h1, h2⟩ := (Bool.and_eq_true _ _).mp h
  refine ⟨of_decide_eq_true h1, fun k hk => ?_⟩
  have h3 := List.all_eq_true.mp h2 k (List.mem_range.mpr hk)
  obtain ⟨h4, h5⟩ := (Bool.and_eq_true _ _).mp h3
  obtain ⟨h6, h7⟩ := (Bool.and_eq_true _ _).mp h4
  rw [of_decide_eq_true h6]
  obtain ⟨j, hj, e⟩ := nI_of (Int32.not_lt.mpr (of_decide_eq_true h7))
  have h8 : (sTx t).2 k < 128 := of_decide_eq_true h5
  rw [e] at h8 ⊢
  have h9 : j < 128 := by
    have := Int32.lt_iff_toInt_lt.mp h8
    rw [nI_toInt hj] at this
    have h0 : (128 : Int32).toInt = 128 := by decide
    omega
  have hall : ∀ j, j < 128 → narrow .char (.int (nI j)) = .int (nI j) := by decide +kernel
  exact hall j h9
def sAll (h0 : Nat) (U : State) : Prop := (∀ x ∈ sL, ∃ q, vk_R x.1 x.2.1 x.2.2 q U ∧ sO (sTx x.2.2) q (fun a => h0 ≤ a) U U.heap) ∧ sZ (fun a => h0 ≤ a) U U.heap
def xT0 (cI cJ cZ : ClassId) (h0 : Nat) (ad : Nat → Nat) (S : MS) (sz : Nat) (U : State) : Prop := (∀ a, va_A (MW cI cJ cZ ad S) sz a → h0 ≤ a) ∧ sAll h0 U
def xT1 (cI cJ cZ : ClassId) (h0 : Nat) (ad : Nat → Nat) (S : MS) (tx : Nat × (Nat → Int32)) (q sz : Nat) (U : State) : Prop := xT0 cI cJ cZ h0 ad S sz U ∧ sO tx q (fun a => h0 ≤ a) U U.heap
theorem sAll.moved {h0 : Nat} {A : Nat → Prop} {s U : State} {H : Heap} {locs : List Loc} (hT : sAll h0 s) (hA0 : ∀ a : Nat, A a → h0 ≤ a) (hS : va_S A s.heap H locs) (hU : U.heap = H) (hW : s.WarmedH U.vm) : sAll h0 U := by
  have hk : ∀ a : Nat, a < s.heap.size → ¬ h0 ≤ a → H[a]? = s.heap[a]? := fun a h1 h2 => hS.2.1 a h1 (fun h3 => h2 (hA0 a h3))
  refine ⟨fun x hx => ?_, by rw [hU]; exact sZ.moved hW.alike (hT.2.kept hk)⟩
  obtain ⟨q, h1, h2⟩ := hT.1 x hx
  exact ⟨q, vk_R.warm hW h1, by rw [hU]; exact sO.moved hW.alike (h2.kept hk)⟩
theorem sAll.blind {h0 : Nat} {U : State} {g : JFrame} {mk : MethodId} {a : Array Value} (h : sAll h0 U) : sAll h0 (U.calling g mk a) :=
  ⟨fun x hx => (h.1 x hx).elim fun q h => ⟨q, vk_R.same rfl h.1, sO.moved (u := U) (U := U.calling g mk a) (Vm.Alike.refl U.vm) h.2⟩, sZ.moved (u := U) (U := U.calling g mk a) (Vm.Alike.refl U.vm) h.2⟩
theorem xT0.blind {cI cJ cZ : ClassId} {h0 : Nat} {ad : Nat → Nat} {S : MS} (sz : Nat) (a : Array Value) (U : State) (g : JFrame) (mk : MethodId) (h : xT0 cI cJ cZ h0 ad S sz U) : xT0 cI cJ cZ h0 ad S sz (U.calling g mk a) := ⟨h.1, h.2.blind⟩
theorem xT1.blind {cI cJ cZ : ClassId} {h0 : Nat} {ad : Nat → Nat} {S : MS} {tx : Nat × (Nat → Int32)} {q : Nat} (sz : Nat) (a : Array Value) (U : State) (g : JFrame) (mk : MethodId) (h : xT1 cI cJ cZ h0 ad S tx q sz U) : xT1 cI cJ cZ h0 ad S tx q sz (U.calling g mk a) := ⟨⟨h.1.1, h.1.2.blind⟩, sO.moved (u := U) (U := U.calling g mk a) (Vm.Alike.refl U.vm) h.2⟩
theorem xT0.go {D : va_G} {cI cJ cZ : ClassId} {h0 : Nat} {ad : Nat → Nat} {S : MS} {A : Nat → Prop} {s : State} {H : Heap} {locs : List Loc} (hT : sAll h0 s) (hA0 : ∀ a : Nat, A a → h0 ≤ a) (hA : ∀ q : Nat, s.heap.size ≤ q → A q) (G : mG D cI cJ cZ ad A s.heap H locs S) (U : State) (hU : U.heap = H) (hW : s.WarmedH U.vm) : xT0 cI cJ cZ h0 ad S H.size U :=
  ⟨fun a h => hA0 a (va_free (wc := MW cI cJ cZ ad S) G.2.1 G.2.2 hA [0, 1, 2, 3, 4, 5, 6, 7, 8, 9, 10, 11, 12, 13, 14, 15, 16] rfl a h), hT.moved hA0 G.2.2 hU hW⟩
theorem xT1.go {D : va_G} {cI cJ cZ : ClassId} {h0 : Nat} {ad : Nat → Nat} {S : MS} {A : Nat → Prop} {s : State} {H : Heap} {locs : List Loc} {tx : Nat × (Nat → Int32)} {q : Nat} (hT : sAll h0 s) (hA0 : ∀ a : Nat, A a → h0 ≤ a) (hA : ∀ q : Nat, s.heap.size ≤ q → A q) (G : mG D cI cJ cZ ad A s.heap H locs S) (hO : sO tx q (fun a => h0 ≤ a) s s.heap) (U : State) (hU : U.heap = H) (hW : s.WarmedH U.vm) : xT1 cI cJ cZ h0 ad S tx q H.size U :=
  ⟨xT0.go hT hA0 hA G U hU hW, by rw [hU]; exact sO.moved hW.alike (hO.kept (fun a h1 h2 => G.2.2.2.1 a h1 (fun h3 => h2 (hA0 a h3))))⟩
theorem sO.recv {tx : Nat × (Nat → Int32)} {q h0 : Nat} {A : Nat → Prop} {s : State} {H : Heap} {locs : List Loc} (hO : sO tx q (fun a => h0 ≤ a) s s.heap) (hA0 : ∀ a : Nat, A a → h0 ≤ a) (hS : va_S A s.heap H locs) : ∃ cell : Cell, H[q]? = some cell ∧ cell.vm.isStatics = false ∧ s.vm.findClass RJ0 = some cell.cls := by
  obtain ⟨v, h1, -⟩ := hO.kept (fun a h1 h2 => hS.2.1 a h1 (fun h3 => h2 (hA0 a h3)))
  obtain ⟨cell, g1, g2, g3, -⟩ := h1
  exact ⟨cell, g1, g2, g3⟩
theorem sP.go {tx : Nat × (Nat → Int32)} {q h0 : Nat} {A : Nat → Prop} {s : State} {H : Heap} {locs : List Loc} (hO : sO tx q (fun a => h0 ≤ a) s s.heap) (hZ : sZ (fun a => h0 ≤ a) s s.heap) (hA0 : ∀ a : Nat, A a → h0 ≤ a) (hS : va_S A s.heap H locs) (U : State) (hU : U.heap = H) (hW : s.WarmedH U.vm) : sP tx q U := by
  have hk : ∀ a : Nat, a < s.heap.size → ¬ h0 ≤ a → H[a]? = s.heap[a]? := fun a h1 h2 => hS.2.1 a h1 (fun h3 => h2 (hA0 a h3))
  exact ⟨by rw [hU]; exact (sO.moved hW.alike (hO.kept hk)).narrow (fun _ h => h.elim), by rw [hU]; exact (sZ.moved hW.alike (hZ.kept hk)).narrow (fun _ h => h.elim)⟩
abbrev mCiX (l : Launch) (y : MethodName) (ws : List Cond) (fr lo : Nat) (D : va_G) (cI cJ cZ : ClassId) (ad : Nat → Nat) (S : MS) (As : List Value) (X : Nat → State → Prop) (post : Int32 → MS → Prop) : Prop := ∀ sz : Nat, Met l y ws { frames := fr, cells := 0, slots := 0, locals := lo } (va_Pc (.ref (ad 0) :: As) (fun U => mB D cI cJ cZ ad S sz U ∧ X sz U)) (va_Qi post (mAt D cI cJ cZ ad (va_A (MW cI cJ cZ ad S) sz)) (va_A (MW cI cJ cZ ad S) sz)) 0 0 (va_A (MW cI cJ cZ ad S) sz)
theorem m_calliX {p : Program} {l : Launch} {e : Env} {R : Room} {s : State} {m : MethodId} {args : Array Value} {below : List Frame} {meth : Method} {c : Code} {H : Heap} {locs : List Loc} {cells slots : Nat} {Q : State → Prop} {cc : ByteArray} {pc : Nat} {ls : Array Slot} {rest : List Value} {D : va_G} {A : Nat → Prop} {H0 : Heap} {Ts : List Cond} {cI cJ cZ : ClassId} {ad : Nat → Nat} {S : MS} {y : MethodName} {bytes : ByteArray} {maxL nL n index fr lo : Nat} {ret : Option FieldType} {ws : List Cond} {As : List Value} {X : Nat → State → Prop} {post : Int32 → MS → Prop} (E : mE p c cc s m args Ts D cI cJ cZ) (G : mG D cI cJ cZ ad A H0 H locs S) (hA : ∀ q, H0.size ≤ q → A q) (hR : sR s) (hml : c.maxLocals = nL) (hM : mCiX l y ws fr lo D cI cJ cZ ad S As X post) (cw : CallW R s args RX12 RX12 index y bytes maxL ret ws { frames := fr, cells := 0, slots := 0, locals := lo } 0 0 n) (hn : As.length = n) (hsz : ls.size = nL) {st : List Value} (hst : st = As.reverse ++ .ref (ad 0) :: rest) (hW : 2 * (F0 m pc ls st).monitorRoom + (rest.map fun v => v.category).sum ≤ 8) (hdg : decode cc pc = .ok (.invokevirtual index, 3)) (hf : cells ≤ R.cells ∧ slots ≤ R.slots) (hXb : ∀ (sz : Nat) (a : Array Value) (U : State) (g : JFrame) (mk : MethodId), X sz U → X sz (U.calling g mk a)) (hXp : ∀ U : State, U.heap = H → s.WarmedH U.vm → X H.size U) (kk : ∀ (r : Int32) (S1 : MS) (H1 : Heap) (locs1 : List Loc), post r S1 → mG D cI cJ cZ ad A H0 H1 locs1 S1 → W p l e R s m args below meth c H1 locs1 cells slots Q (F0 m (pc + 3) ls (.int r :: rest))) : W p l e R s m args below meth c H locs cells slots Q (F0 m pc ls st) := by
  obtain ⟨hx, hb, hts, hown, hK, hin⟩ := E
  obtain ⟨hP, hD, hS⟩ := G
  have hFc := va_free (wc := MW cI cJ cZ ad S) hD hS hA [0, 1, 2, 3, 4, 5, 6, 7, 8, 9, 10, 11, 12, 13, 14, 15, 16] rfl
  refine va_calli (va_runV (As := As) (rest := rest) ⟨hx, hb, hml, hown, hts⟩ (hM H.size) cw ⟨fun a U g mk q => by obtain ⟨q0, ⟨q1, qP, qK, qD, qR⟩, qX⟩ := q; exact ⟨q0, ⟨q1, qP, va_K.moved (u := U) (U := U.calling g mk a) (Vm.Alike.refl U.vm) qK, qD, qR.blind⟩, hXb _ _ _ _ _ qX⟩, va_recv hK hP (ci := 12) (q0 := 0) rfl rfl, fun U hU hW => ⟨rfl, ⟨by rw [hU], by rw [hU]; exact hP, va_K.moved hW.alike hK, hD.weaken (fun _ _ _ _ => trivial), hR.warm hW⟩, hXp U hU hW⟩⟩ rfl hn hsz hst hW hdg hf) hS (fun q _ h => hFc q h) hFc (fun r u t H1 locs1 ht hvm hw hB hz1 hk1 hS => ?_)
  obtain ⟨hP1, hK1, hD1⟩ := hB
  rw [ht] at hP1
  obtain ⟨hP2, hD2⟩ := va_join (wr := []) (w1 := MW cI cJ cZ ad u) hP hD [0, 1, 2, 3, 4, 5, 6, 7, 8, 9, 10, 11, 12, 13, 14, 15, 16] [] rfl rfl (by decide) (by decide) hk1 hFc hP1 hD1
  exact kk r u H1 locs1 hw ⟨hP2, hD2, hS⟩
abbrev mCvX (l : Launch) (y : MethodName) (ws : List Cond) (fr lo : Nat) (D : va_G) (cI cJ cZ : ClassId) (ad : Nat → Nat) (S : MS) (As : List Value) (X : Nat → State → Prop) (post : MS → Prop) : Prop := ∀ sz : Nat, Met l y ws { frames := fr, cells := 0, slots := 0, locals := lo } (va_Pc (.ref (ad 0) :: As) (fun U => mB D cI cJ cZ ad S sz U ∧ X sz U)) (va_Qv post (mAt D cI cJ cZ ad (va_A (MW cI cJ cZ ad S) sz)) (va_A (MW cI cJ cZ ad S) sz)) 0 0 (va_A (MW cI cJ cZ ad S) sz)
theorem m_callvX {p : Program} {l : Launch} {e : Env} {R : Room} {s : State} {m : MethodId} {args : Array Value} {below : List Frame} {meth : Method} {c : Code} {H : Heap} {locs : List Loc} {cells slots : Nat} {Q : State → Prop} {cc : ByteArray} {pc : Nat} {ls : Array Slot} {rest : List Value} {D : va_G} {A : Nat → Prop} {H0 : Heap} {Ts : List Cond} {cI cJ cZ : ClassId} {ad : Nat → Nat} {S : MS} {y : MethodName} {bytes : ByteArray} {maxL nL n index fr lo : Nat} {ret : Option FieldType} {ws : List Cond} {As : List Value} {X : Nat → State → Prop} {post : MS → Prop} (E : mE p c cc s m args Ts D cI cJ cZ) (G : mG D cI cJ cZ ad A H0 H locs S) (hA : ∀ q, H0.size ≤ q → A q) (hR : sR s) (hml : c.maxLocals = nL) (hM : mCvX l y ws fr lo D cI cJ cZ ad S As X post) (cw : CallW R s args RX12 RX12 index y bytes maxL ret ws { frames := fr, cells := 0, slots := 0, locals := lo } 0 0 n) (hn : As.length = n) (hsz : ls.size = nL) {st : List Value} (hst : st = As.reverse ++ .ref (ad 0) :: rest) (hW : 2 * (F0 m pc ls st).monitorRoom + (rest.map fun v => v.category).sum ≤ 8) (hdg : decode cc pc = .ok (.invokevirtual index, 3)) (hf : cells ≤ R.cells ∧ slots ≤ R.slots) (hXb : ∀ (sz : Nat) (a : Array Value) (U : State) (g : JFrame) (mk : MethodId), X sz U → X sz (U.calling g mk a)) (hXp : ∀ U : State, U.heap = H → s.WarmedH U.vm → X H.size U) (kk : ∀ (S1 : MS) (H1 : Heap) (locs1 : List Loc), post S1 → mG D cI cJ cZ ad A H0 H1 locs1 S1 → W p l e R s m args below meth c H1 locs1 cells slots Q (F0 m (pc + 3) ls rest)) : W p l e R s m args below meth c H locs cells slots Q (F0 m pc ls st) := by
  obtain ⟨hx, hb, hts, hown, hK, hin⟩ := E
  obtain ⟨hP, hD, hS⟩ := G
  have hFc := va_free (wc := MW cI cJ cZ ad S) hD hS hA [0, 1, 2, 3, 4, 5, 6, 7, 8, 9, 10, 11, 12, 13, 14, 15, 16] rfl
  refine va_callv (va_runV (As := As) (rest := rest) ⟨hx, hb, hml, hown, hts⟩ (hM H.size) cw ⟨fun a U g mk q => by obtain ⟨q0, ⟨q1, qP, qK, qD, qR⟩, qX⟩ := q; exact ⟨q0, ⟨q1, qP, va_K.moved (u := U) (U := U.calling g mk a) (Vm.Alike.refl U.vm) qK, qD, qR.blind⟩, hXb _ _ _ _ _ qX⟩, va_recv hK hP (ci := 12) (q0 := 0) rfl rfl, fun U hU hW => ⟨rfl, ⟨by rw [hU], by rw [hU]; exact hP, va_K.moved hW.alike hK, hD.weaken (fun _ _ _ _ => trivial), hR.warm hW⟩, hXp U hU hW⟩⟩ rfl hn hsz hst hW hdg hf) hS (fun q _ h => hFc q h) hFc (fun u t H1 locs1 ht hvm hw hB hz1 hk1 hS => ?_)
  obtain ⟨hP1, hK1, hD1⟩ := hB
  rw [ht] at hP1
  obtain ⟨hP2, hD2⟩ := va_join (wr := []) (w1 := MW cI cJ cZ ad u) hP hD [0, 1, 2, 3, 4, 5, 6, 7, 8, 9, 10, 11, 12, 13, 14, 15, 16] [] rfl rfl (by decide) (by decide) hk1 hFc hP1 hD1
  exact kk u H1 locs1 hw ⟨hP2, hD2, hS⟩
end
section
/-! 11ba.cc.lean.txt -/
/-- the class's world by numbers: how many cells, what each is (class or kind of array, length), its ints, its longs, its references (cells by number) -/
abbrev AT : Type := Nat × (Nat → Nat × Nat) × (Nat → Nat → Int32) × (Nat → Nat → Int64) × (Nat → Nat → Option Nat)
def ccv (cI cJ cZ cMic cSrc cSt cAI cAJ : ClassId) (ad : Nat → Nat) (sh : Nat × Nat) (vi : Nat → Int32) (vj : Nat → Int64) (vr : Nat → Option Nat) : va_E := match sh.1 with
  | 0 => .inr (0, [va_rf ((vr 0).map ad)])
  | 1 => .inr (1, [.int (vi 0), .int (vi 1), .int (vi 2), .int (vi 3), .int (vi 4), va_rf ((vr 5).map ad), va_rf ((vr 6).map ad), .int (vi 7), va_rf ((vr 8).map ad)])
  | 2 => .inr (2, [.int (vi 0), .int (vi 1), .int (vi 2), .int (vi 3)])
  | 3 => .inr (3, [va_rf ((vr 0).map ad), .int (vi 1), .int (vi 2), .int (vi 3)])
  | 4 => .inr (4, [.int (vi 0), va_rf ((vr 1).map ad), .int (vi 2), .int (vi 3), va_rf ((vr 4).map ad), va_rf ((vr 5).map ad)])
  | 5 => .inr (5, [va_rf ((vr 0).map ad), va_rf ((vr 1).map ad)])
  | 6 => .inr (6, [.int (vi 0), .int (vi 1), .int (vi 2), .int (vi 3), va_rf ((vr 4).map ad), .int (vi 5), va_rf ((vr 6).map ad), va_rf ((vr 7).map ad), .int (vi 8), va_rf ((vr 9).map ad), va_rf ((vr 10).map ad), .int (vi 11), .int (vi 12), va_rf ((vr 13).map ad), .int (vi 14), va_rf ((vr 15).map ad), .int (vi 16), va_rf ((vr 17).map ad)])
  | 7 => .inr (7, [.int (vi 0), .int (vi 1), .int (vi 2), .int (vi 3), .int (vi 4), .int (vi 5), .int (vi 6), .int (vi 7), .int (vi 8), .int (vi 9)])
  | 8 => .inr (8, [.int (vi 0), .int (vi 1), .int (vi 2), va_rf ((vr 3).map ad), va_rf ((vr 4).map ad), va_rf ((vr 5).map ad), va_rf ((vr 6).map ad), va_rf ((vr 7).map ad), va_rf ((vr 8).map ad), va_rf ((vr 9).map ad), va_rf ((vr 10).map ad), va_rf ((vr 11).map ad)])
  | 9 => .inr (9, [va_rf ((vr 0).map ad), .int (vi 1), va_rf ((vr 2).map ad), va_rf ((vr 3).map ad), va_rf ((vr 4).map ad), .int (vi 5)])
  | 10 => .inr (10, [.int (vi 0), va_rf ((vr 1).map ad), .int (vi 2)])
  | 11 => .inr (11, [va_rf ((vr 0).map ad), va_rf ((vr 1).map ad), va_rf ((vr 2).map ad), va_rf ((vr 3).map ad), va_rf ((vr 4).map ad), va_rf ((vr 5).map ad), va_rf ((vr 6).map ad), va_rf ((vr 7).map ad), va_rf ((vr 8).map ad), va_rf ((vr 9).map ad), va_rf ((vr 10).map ad), va_rf ((vr 11).map ad), va_rf ((vr 12).map ad), va_rf ((vr 13).map ad), va_rf ((vr 14).map ad), va_rf ((vr 15).map ad), .int (vi 16), .int (vi 17), .int (vi 18)])
  | 100 => .inl (cI, sh.2, .inl vi)
  | 101 => .inl (cJ, sh.2, .inr (.inl vj))
  | 102 => .inl (cZ, sh.2, .inl vi)
  | 103 => .inl (cMic, sh.2, .inr (.inr (.inr (.inr (fun i => (vr i).map ad)))))
  | 104 => .inl (cSrc, sh.2, .inr (.inr (.inr (.inr (fun i => (vr i).map ad)))))
  | 105 => .inl (cSt, sh.2, .inr (.inr (.inr (.inr (fun i => (vr i).map ad)))))
  | 106 => .inl (cAI, sh.2, .inr (.inr (.inr (.inr (fun i => (vr i).map ad)))))
  | 107 => .inl (cAJ, sh.2, .inr (.inr (.inr (.inr (fun i => (vr i).map ad)))))
  | _ => .inr (0, [])
def cc (cI cJ cZ cMic cSrc cSt cAI cAJ : ClassId) (ad : Nat → Nat) (T : AT) (n : Nat) : va_E := ccv cI cJ cZ cMic cSrc cSt cAI cAJ ad (T.2.1 n) (T.2.2.1 n) (T.2.2.2.1 n) (T.2.2.2.2 n)
def uI (T : AT) (n k : Nat) (v : Int32) : AT := (T.1, T.2.1, va_up T.2.2.1 n (upd (T.2.2.1 n) k v), T.2.2.2)
def uJ (T : AT) (n k : Nat) (v : Int64) : AT := (T.1, T.2.1, T.2.2.1, va_up T.2.2.2.1 n (vp_updL (T.2.2.2.1 n) k v), T.2.2.2.2)
def uR (T : AT) (n k q : Nat) : AT := (T.1, T.2.1, T.2.2.1, T.2.2.2.1, va_up T.2.2.2.2 n (va_up (T.2.2.2.2 n) k (some q)))
def oO (T : AT) (n c : Nat) : Bool := Nat.blt n T.1 && decide (T.2.1 n = (c, 0))
def aA (T : AT) (n c : Nat) : Bool := Nat.blt n T.1 && (decide ((T.2.1 n).1 = c) && Nat.blt (T.2.1 n).2 (2 ^ 31))
theorem oO_k {T : AT} {n c : Nat} (h : oO T n c = true) : n < T.1 ∧ T.2.1 n = (c, 0) := ⟨Nat.le_of_ble_eq_true ((Bool.and_eq_true _ _).mp h).1, of_decide_eq_true ((Bool.and_eq_true _ _).mp h).2⟩
theorem aA_k {T : AT} {n c : Nat} (h : aA T n c = true) : n < T.1 ∧ (T.2.1 n).1 = c ∧ (T.2.1 n).2 < 2 ^ 31 := ⟨Nat.le_of_ble_eq_true ((Bool.and_eq_true _ _).mp h).1, of_decide_eq_true ((Bool.and_eq_true _ _).mp ((Bool.and_eq_true _ _).mp h).2).1, Nat.le_of_ble_eq_true ((Bool.and_eq_true _ _).mp ((Bool.and_eq_true _ _).mp h).2).2⟩
theorem cc_o0 {cI cJ cZ cMic cSrc cSt cAI cAJ : ClassId} {ad : Nat → Nat} {T : AT} {n : Nat} (h : T.2.1 n = (0, 0)) : cc cI cJ cZ cMic cSrc cSt cAI cAJ ad T n = .inr (0, [va_rf ((T.2.2.2.2 n 0).map ad)]) := by
  unfold cc
  rw [h]
  rfl
theorem cc_o1 {cI cJ cZ cMic cSrc cSt cAI cAJ : ClassId} {ad : Nat → Nat} {T : AT} {n : Nat} (h : T.2.1 n = (1, 0)) : cc cI cJ cZ cMic cSrc cSt cAI cAJ ad T n = .inr (1, [.int (T.2.2.1 n 0), .int (T.2.2.1 n 1), .int (T.2.2.1 n 2), .int (T.2.2.1 n 3), .int (T.2.2.1 n 4), va_rf ((T.2.2.2.2 n 5).map ad), va_rf ((T.2.2.2.2 n 6).map ad), .int (T.2.2.1 n 7), va_rf ((T.2.2.2.2 n 8).map ad)]) := by
  unfold cc
  rw [h]
  rfl
theorem cc_o2 {cI cJ cZ cMic cSrc cSt cAI cAJ : ClassId} {ad : Nat → Nat} {T : AT} {n : Nat} (h : T.2.1 n = (2, 0)) : cc cI cJ cZ cMic cSrc cSt cAI cAJ ad T n = .inr (2, [.int (T.2.2.1 n 0), .int (T.2.2.1 n 1), .int (T.2.2.1 n 2), .int (T.2.2.1 n 3)]) := by
  unfold cc
  rw [h]
  rfl
theorem cc_o3 {cI cJ cZ cMic cSrc cSt cAI cAJ : ClassId} {ad : Nat → Nat} {T : AT} {n : Nat} (h : T.2.1 n = (3, 0)) : cc cI cJ cZ cMic cSrc cSt cAI cAJ ad T n = .inr (3, [va_rf ((T.2.2.2.2 n 0).map ad), .int (T.2.2.1 n 1), .int (T.2.2.1 n 2), .int (T.2.2.1 n 3)]) := by
  unfold cc
  rw [h]
  rfl
theorem cc_o4 {cI cJ cZ cMic cSrc cSt cAI cAJ : ClassId} {ad : Nat → Nat} {T : AT} {n : Nat} (h : T.2.1 n = (4, 0)) : cc cI cJ cZ cMic cSrc cSt cAI cAJ ad T n = .inr (4, [.int (T.2.2.1 n 0), va_rf ((T.2.2.2.2 n 1).map ad), .int (T.2.2.1 n 2), .int (T.2.2.1 n 3), va_rf ((T.2.2.2.2 n 4).map ad), va_rf ((T.2.2.2.2 n 5).map ad)]) := by
  unfold cc
  rw [h]
  rfl
theorem cc_o5 {cI cJ cZ cMic cSrc cSt cAI cAJ : ClassId} {ad : Nat → Nat} {T : AT} {n : Nat} (h : T.2.1 n = (5, 0)) : cc cI cJ cZ cMic cSrc cSt cAI cAJ ad T n = .inr (5, [va_rf ((T.2.2.2.2 n 0).map ad), va_rf ((T.2.2.2.2 n 1).map ad)]) := by
  unfold cc
  rw [h]
  rfl
theorem cc_o6 {cI cJ cZ cMic cSrc cSt cAI cAJ : ClassId} {ad : Nat → Nat} {T : AT} {n : Nat} (h : T.2.1 n = (6, 0)) : cc cI cJ cZ cMic cSrc cSt cAI cAJ ad T n = .inr (6, [.int (T.2.2.1 n 0), .int (T.2.2.1 n 1), .int (T.2.2.1 n 2), .int (T.2.2.1 n 3), va_rf ((T.2.2.2.2 n 4).map ad), .int (T.2.2.1 n 5), va_rf ((T.2.2.2.2 n 6).map ad), va_rf ((T.2.2.2.2 n 7).map ad), .int (T.2.2.1 n 8), va_rf ((T.2.2.2.2 n 9).map ad), va_rf ((T.2.2.2.2 n 10).map ad), .int (T.2.2.1 n 11), .int (T.2.2.1 n 12), va_rf ((T.2.2.2.2 n 13).map ad), .int (T.2.2.1 n 14), va_rf ((T.2.2.2.2 n 15).map ad), .int (T.2.2.1 n 16), va_rf ((T.2.2.2.2 n 17).map ad)]) := by
  unfold cc
  rw [h]
  rfl
theorem cc_o7 {cI cJ cZ cMic cSrc cSt cAI cAJ : ClassId} {ad : Nat → Nat} {T : AT} {n : Nat} (h : T.2.1 n = (7, 0)) : cc cI cJ cZ cMic cSrc cSt cAI cAJ ad T n = .inr (7, [.int (T.2.2.1 n 0), .int (T.2.2.1 n 1), .int (T.2.2.1 n 2), .int (T.2.2.1 n 3), .int (T.2.2.1 n 4), .int (T.2.2.1 n 5), .int (T.2.2.1 n 6), .int (T.2.2.1 n 7), .int (T.2.2.1 n 8), .int (T.2.2.1 n 9)]) := by
  unfold cc
  rw [h]
  rfl
theorem cc_o8 {cI cJ cZ cMic cSrc cSt cAI cAJ : ClassId} {ad : Nat → Nat} {T : AT} {n : Nat} (h : T.2.1 n = (8, 0)) : cc cI cJ cZ cMic cSrc cSt cAI cAJ ad T n = .inr (8, [.int (T.2.2.1 n 0), .int (T.2.2.1 n 1), .int (T.2.2.1 n 2), va_rf ((T.2.2.2.2 n 3).map ad), va_rf ((T.2.2.2.2 n 4).map ad), va_rf ((T.2.2.2.2 n 5).map ad), va_rf ((T.2.2.2.2 n 6).map ad), va_rf ((T.2.2.2.2 n 7).map ad), va_rf ((T.2.2.2.2 n 8).map ad), va_rf ((T.2.2.2.2 n 9).map ad), va_rf ((T.2.2.2.2 n 10).map ad), va_rf ((T.2.2.2.2 n 11).map ad)]) := by
  unfold cc
  rw [h]
  rfl
theorem cc_o9 {cI cJ cZ cMic cSrc cSt cAI cAJ : ClassId} {ad : Nat → Nat} {T : AT} {n : Nat} (h : T.2.1 n = (9, 0)) : cc cI cJ cZ cMic cSrc cSt cAI cAJ ad T n = .inr (9, [va_rf ((T.2.2.2.2 n 0).map ad), .int (T.2.2.1 n 1), va_rf ((T.2.2.2.2 n 2).map ad), va_rf ((T.2.2.2.2 n 3).map ad), va_rf ((T.2.2.2.2 n 4).map ad), .int (T.2.2.1 n 5)]) := by
  unfold cc
  rw [h]
  rfl
theorem cc_o10 {cI cJ cZ cMic cSrc cSt cAI cAJ : ClassId} {ad : Nat → Nat} {T : AT} {n : Nat} (h : T.2.1 n = (10, 0)) : cc cI cJ cZ cMic cSrc cSt cAI cAJ ad T n = .inr (10, [.int (T.2.2.1 n 0), va_rf ((T.2.2.2.2 n 1).map ad), .int (T.2.2.1 n 2)]) := by
  unfold cc
  rw [h]
  rfl
theorem cc_o11 {cI cJ cZ cMic cSrc cSt cAI cAJ : ClassId} {ad : Nat → Nat} {T : AT} {n : Nat} (h : T.2.1 n = (11, 0)) : cc cI cJ cZ cMic cSrc cSt cAI cAJ ad T n = .inr (11, [va_rf ((T.2.2.2.2 n 0).map ad), va_rf ((T.2.2.2.2 n 1).map ad), va_rf ((T.2.2.2.2 n 2).map ad), va_rf ((T.2.2.2.2 n 3).map ad), va_rf ((T.2.2.2.2 n 4).map ad), va_rf ((T.2.2.2.2 n 5).map ad), va_rf ((T.2.2.2.2 n 6).map ad), va_rf ((T.2.2.2.2 n 7).map ad), va_rf ((T.2.2.2.2 n 8).map ad), va_rf ((T.2.2.2.2 n 9).map ad), va_rf ((T.2.2.2.2 n 10).map ad), va_rf ((T.2.2.2.2 n 11).map ad), va_rf ((T.2.2.2.2 n 12).map ad), va_rf ((T.2.2.2.2 n 13).map ad), va_rf ((T.2.2.2.2 n 14).map ad), va_rf ((T.2.2.2.2 n 15).map ad), .int (T.2.2.1 n 16), .int (T.2.2.1 n 17), .int (T.2.2.1 n 18)]) := by
  unfold cc
  rw [h]
  rfl
theorem ccv_100 {cI cJ cZ cMic cSrc cSt cAI cAJ : ClassId} {ad : Nat → Nat} {sh : Nat × Nat} {vi : Nat → Int32} {vj : Nat → Int64} {vr : Nat → Option Nat} (h : sh.1 = 100) : ccv cI cJ cZ cMic cSrc cSt cAI cAJ ad sh vi vj vr = .inl (cI, sh.2, .inl vi) := by
  unfold ccv
  rw [h]
  rfl
theorem cc_a100 {cI cJ cZ cMic cSrc cSt cAI cAJ : ClassId} {ad : Nat → Nat} {T : AT} {n : Nat} (h : (T.2.1 n).1 = 100) : cc cI cJ cZ cMic cSrc cSt cAI cAJ ad T n = .inl (cI, (T.2.1 n).2, .inl (T.2.2.1 n)) := ccv_100 h
theorem ccv_101 {cI cJ cZ cMic cSrc cSt cAI cAJ : ClassId} {ad : Nat → Nat} {sh : Nat × Nat} {vi : Nat → Int32} {vj : Nat → Int64} {vr : Nat → Option Nat} (h : sh.1 = 101) : ccv cI cJ cZ cMic cSrc cSt cAI cAJ ad sh vi vj vr = .inl (cJ, sh.2, .inr (.inl vj)) := by
  unfold ccv
  rw [h]
  rfl
theorem cc_a101 {cI cJ cZ cMic cSrc cSt cAI cAJ : ClassId} {ad : Nat → Nat} {T : AT} {n : Nat} (h : (T.2.1 n).1 = 101) : cc cI cJ cZ cMic cSrc cSt cAI cAJ ad T n = .inl (cJ, (T.2.1 n).2, .inr (.inl (T.2.2.2.1 n))) := ccv_101 h
theorem ccv_102 {cI cJ cZ cMic cSrc cSt cAI cAJ : ClassId} {ad : Nat → Nat} {sh : Nat × Nat} {vi : Nat → Int32} {vj : Nat → Int64} {vr : Nat → Option Nat} (h : sh.1 = 102) : ccv cI cJ cZ cMic cSrc cSt cAI cAJ ad sh vi vj vr = .inl (cZ, sh.2, .inl vi) := by
  unfold ccv
  rw [h]
  rfl
theorem cc_a102 {cI cJ cZ cMic cSrc cSt cAI cAJ : ClassId} {ad : Nat → Nat} {T : AT} {n : Nat} (h : (T.2.1 n).1 = 102) : cc cI cJ cZ cMic cSrc cSt cAI cAJ ad T n = .inl (cZ, (T.2.1 n).2, .inl (T.2.2.1 n)) := ccv_102 h
theorem ccv_103 {cI cJ cZ cMic cSrc cSt cAI cAJ : ClassId} {ad : Nat → Nat} {sh : Nat × Nat} {vi : Nat → Int32} {vj : Nat → Int64} {vr : Nat → Option Nat} (h : sh.1 = 103) : ccv cI cJ cZ cMic cSrc cSt cAI cAJ ad sh vi vj vr = .inl (cMic, sh.2, .inr (.inr (.inr (.inr (fun i => (vr i).map ad))))) := by
  unfold ccv
  rw [h]
  rfl
theorem cc_a103 {cI cJ cZ cMic cSrc cSt cAI cAJ : ClassId} {ad : Nat → Nat} {T : AT} {n : Nat} (h : (T.2.1 n).1 = 103) : cc cI cJ cZ cMic cSrc cSt cAI cAJ ad T n = .inl (cMic, (T.2.1 n).2, .inr (.inr (.inr (.inr (fun i => (T.2.2.2.2 n i).map ad))))) := ccv_103 h
theorem ccv_104 {cI cJ cZ cMic cSrc cSt cAI cAJ : ClassId} {ad : Nat → Nat} {sh : Nat × Nat} {vi : Nat → Int32} {vj : Nat → Int64} {vr : Nat → Option Nat} (h : sh.1 = 104) : ccv cI cJ cZ cMic cSrc cSt cAI cAJ ad sh vi vj vr = .inl (cSrc, sh.2, .inr (.inr (.inr (.inr (fun i => (vr i).map ad))))) := by
  unfold ccv
  rw [h]
  rfl
theorem cc_a104 {cI cJ cZ cMic cSrc cSt cAI cAJ : ClassId} {ad : Nat → Nat} {T : AT} {n : Nat} (h : (T.2.1 n).1 = 104) : cc cI cJ cZ cMic cSrc cSt cAI cAJ ad T n = .inl (cSrc, (T.2.1 n).2, .inr (.inr (.inr (.inr (fun i => (T.2.2.2.2 n i).map ad))))) := ccv_104 h
theorem ccv_105 {cI cJ cZ cMic cSrc cSt cAI cAJ : ClassId} {ad : Nat → Nat} {sh : Nat × Nat} {vi : Nat → Int32} {vj : Nat → Int64} {vr : Nat → Option Nat} (h : sh.1 = 105) : ccv cI cJ cZ cMic cSrc cSt cAI cAJ ad sh vi vj vr = .inl (cSt, sh.2, .inr (.inr (.inr (.inr (fun i => (vr i).map ad))))) := by
  unfold ccv
  rw [h]
  rfl
theorem cc_a105 {cI cJ cZ cMic cSrc cSt cAI cAJ : ClassId} {ad : Nat → Nat} {T : AT} {n : Nat} (h : (T.2.1 n).1 = 105) : cc cI cJ cZ cMic cSrc cSt cAI cAJ ad T n = .inl (cSt, (T.2.1 n).2, .inr (.inr (.inr (.inr (fun i => (T.2.2.2.2 n i).map ad))))) := ccv_105 h
theorem ccv_106 {cI cJ cZ cMic cSrc cSt cAI cAJ : ClassId} {ad : Nat → Nat} {sh : Nat × Nat} {vi : Nat → Int32} {vj : Nat → Int64} {vr : Nat → Option Nat} (h : sh.1 = 106) : ccv cI cJ cZ cMic cSrc cSt cAI cAJ ad sh vi vj vr = .inl (cAI, sh.2, .inr (.inr (.inr (.inr (fun i => (vr i).map ad))))) := by
  unfold ccv
  rw [h]
  rfl
theorem cc_a106 {cI cJ cZ cMic cSrc cSt cAI cAJ : ClassId} {ad : Nat → Nat} {T : AT} {n : Nat} (h : (T.2.1 n).1 = 106) : cc cI cJ cZ cMic cSrc cSt cAI cAJ ad T n = .inl (cAI, (T.2.1 n).2, .inr (.inr (.inr (.inr (fun i => (T.2.2.2.2 n i).map ad))))) := ccv_106 h
theorem ccv_107 {cI cJ cZ cMic cSrc cSt cAI cAJ : ClassId} {ad : Nat → Nat} {sh : Nat × Nat} {vi : Nat → Int32} {vj : Nat → Int64} {vr : Nat → Option Nat} (h : sh.1 = 107) : ccv cI cJ cZ cMic cSrc cSt cAI cAJ ad sh vi vj vr = .inl (cAJ, sh.2, .inr (.inr (.inr (.inr (fun i => (vr i).map ad))))) := by
  unfold ccv
  rw [h]
  rfl
theorem cc_a107 {cI cJ cZ cMic cSrc cSt cAI cAJ : ClassId} {ad : Nat → Nat} {T : AT} {n : Nat} (h : (T.2.1 n).1 = 107) : cc cI cJ cZ cMic cSrc cSt cAI cAJ ad T n = .inl (cAJ, (T.2.1 n).2, .inr (.inr (.inr (.inr (fun i => (T.2.2.2.2 n i).map ad))))) := ccv_107 h
abbrev gC (cI cJ cZ cMic cSrc cSt cAI cAJ : ClassId) (D : va_G) (ad : Nat → Nat) (A : Nat → Prop) (H0 H : Heap) (locs : List Loc) (T : AT) : Prop := cG D ad T.1 A H0 H locs (cc cI cJ cZ cMic cSrc cSt cAI cAJ ad T)
theorem cc_up_i {cI cJ cZ cMic cSrc cSt cAI cAJ : ClassId} {ad : Nat → Nat} {T : AT} {n : Nat} {f : Nat → Int32} {e : va_E} (h : ccv cI cJ cZ cMic cSrc cSt cAI cAJ ad (T.2.1 n) f (T.2.2.2.1 n) (T.2.2.2.2 n) = e) : va_up (cc cI cJ cZ cMic cSrc cSt cAI cAJ ad T) n e = cc cI cJ cZ cMic cSrc cSt cAI cAJ ad (T.1, T.2.1, va_up T.2.2.1 n f, T.2.2.2) := by
  funext m
  by_cases q : m = n
  · subst q
    rw [va_up_self]
    unfold cc
    show e = _
    dsimp only
    rw [va_up_self]
    exact h.symm
  · rw [va_up_ne _ _ q]
    unfold cc
    dsimp only
    rw [va_up_ne _ _ q]
theorem gC_up_i {cI cJ cZ cMic cSrc cSt cAI cAJ : ClassId} {ad : Nat → Nat} {D : va_G} {A : Nat → Prop} {H0 H : Heap} {locs : List Loc} {T : AT} {n : Nat} {f : Nat → Int32} {e : va_E} (h : ccv cI cJ cZ cMic cSrc cSt cAI cAJ ad (T.2.1 n) f (T.2.2.2.1 n) (T.2.2.2.2 n) = e) (G : cG D ad T.1 A H0 H locs (va_up (cc cI cJ cZ cMic cSrc cSt cAI cAJ ad T) n e)) : gC cI cJ cZ cMic cSrc cSt cAI cAJ D ad A H0 H locs (T.1, T.2.1, va_up T.2.2.1 n f, T.2.2.2) := by
  rw [cc_up_i h] at G
  exact G
theorem cc_up_j {cI cJ cZ cMic cSrc cSt cAI cAJ : ClassId} {ad : Nat → Nat} {T : AT} {n : Nat} {f : Nat → Int64} {e : va_E} (h : ccv cI cJ cZ cMic cSrc cSt cAI cAJ ad (T.2.1 n) (T.2.2.1 n) f (T.2.2.2.2 n) = e) : va_up (cc cI cJ cZ cMic cSrc cSt cAI cAJ ad T) n e = cc cI cJ cZ cMic cSrc cSt cAI cAJ ad (T.1, T.2.1, T.2.2.1, va_up T.2.2.2.1 n f, T.2.2.2.2) := by
  funext m
  by_cases q : m = n
  · subst q
    rw [va_up_self]
    unfold cc
    show e = _
    dsimp only
    rw [va_up_self]
    exact h.symm
  · rw [va_up_ne _ _ q]
    unfold cc
    dsimp only
    rw [va_up_ne _ _ q]
theorem gC_up_j {cI cJ cZ cMic cSrc cSt cAI cAJ : ClassId} {ad : Nat → Nat} {D : va_G} {A : Nat → Prop} {H0 H : Heap} {locs : List Loc} {T : AT} {n : Nat} {f : Nat → Int64} {e : va_E} (h : ccv cI cJ cZ cMic cSrc cSt cAI cAJ ad (T.2.1 n) (T.2.2.1 n) f (T.2.2.2.2 n) = e) (G : cG D ad T.1 A H0 H locs (va_up (cc cI cJ cZ cMic cSrc cSt cAI cAJ ad T) n e)) : gC cI cJ cZ cMic cSrc cSt cAI cAJ D ad A H0 H locs (T.1, T.2.1, T.2.2.1, va_up T.2.2.2.1 n f, T.2.2.2.2) := by
  rw [cc_up_j h] at G
  exact G
theorem cc_up_r {cI cJ cZ cMic cSrc cSt cAI cAJ : ClassId} {ad : Nat → Nat} {T : AT} {n : Nat} {f : Nat → Option Nat} {e : va_E} (h : ccv cI cJ cZ cMic cSrc cSt cAI cAJ ad (T.2.1 n) (T.2.2.1 n) (T.2.2.2.1 n) f = e) : va_up (cc cI cJ cZ cMic cSrc cSt cAI cAJ ad T) n e = cc cI cJ cZ cMic cSrc cSt cAI cAJ ad (T.1, T.2.1, T.2.2.1, T.2.2.2.1, va_up T.2.2.2.2 n f) := by
  funext m
  by_cases q : m = n
  · subst q
    rw [va_up_self]
    unfold cc
    show e = _
    dsimp only
    rw [va_up_self]
    exact h.symm
  · rw [va_up_ne _ _ q]
    unfold cc
    dsimp only
    rw [va_up_ne _ _ q]
theorem gC_up_r {cI cJ cZ cMic cSrc cSt cAI cAJ : ClassId} {ad : Nat → Nat} {D : va_G} {A : Nat → Prop} {H0 H : Heap} {locs : List Loc} {T : AT} {n : Nat} {f : Nat → Option Nat} {e : va_E} (h : ccv cI cJ cZ cMic cSrc cSt cAI cAJ ad (T.2.1 n) (T.2.2.1 n) (T.2.2.2.1 n) f = e) (G : cG D ad T.1 A H0 H locs (va_up (cc cI cJ cZ cMic cSrc cSt cAI cAJ ad T) n e)) : gC cI cJ cZ cMic cSrc cSt cAI cAJ D ad A H0 H locs (T.1, T.2.1, T.2.2.1, T.2.2.2.1, va_up T.2.2.2.2 n f) := by
  rw [cc_up_r h] at G
  exact G
abbrev kB (cI cJ cZ cMic cSrc cSt cAI cAJ : ClassId) (D : va_G) (ad : Nat → Nat) (T : AT) (sz : Nat) : State → Prop := fun U => U.heap.size = sz ∧ va_P D vwCl (cW ad T.1 (cc cI cJ cZ cMic cSrc cSt cAI cAJ ad T)) U.heap ∧ va_K D vwCl (CT cI cJ cZ cMic cSrc cSt cAI cAJ) U ∧ va_D (fun _ => True) (cW ad T.1 (cc cI cJ cZ cMic cSrc cSt cAI cAJ ad T)) ∧ xT (va_A (cW ad T.1 (cc cI cJ cZ cMic cSrc cSt cAI cAJ ad T)) sz) U ∧ nX U
abbrev kAt (cI cJ cZ cMic cSrc cSt cAI cAJ : ClassId) (D : va_G) (ad : Nat → Nat) (A : Nat → Prop) (T : AT) (t : State) : Prop := va_P D vwCl (cW ad T.1 (cc cI cJ cZ cMic cSrc cSt cAI cAJ ad T)) t.heap ∧ va_K D vwCl (CT cI cJ cZ cMic cSrc cSt cAI cAJ) t ∧ va_D A (cW ad T.1 (cc cI cJ cZ cMic cSrc cSt cAI cAJ ad T))
abbrev kCi (l : Launch) (y : MethodName) (ws : List Cond) (fr lo : Nat) (cI cJ cZ cMic cSrc cSt cAI cAJ : ClassId) (D : va_G) (ad : Nat → Nat) (T : AT) (As : List Value) (post : Int32 → AT → Prop) : Prop := ∀ sz : Nat, Met l y ws { frames := fr, cells := 0, slots := 0, locals := lo } (va_Pc As (kB cI cJ cZ cMic cSrc cSt cAI cAJ D ad T sz)) (va_Qi post (kAt cI cJ cZ cMic cSrc cSt cAI cAJ D ad (va_A (cW ad T.1 (cc cI cJ cZ cMic cSrc cSt cAI cAJ ad T)) sz)) (va_A (cW ad T.1 (cc cI cJ cZ cMic cSrc cSt cAI cAJ ad T)) sz)) 0 0 (va_A (cW ad T.1 (cc cI cJ cZ cMic cSrc cSt cAI cAJ ad T)) sz)
abbrev kCl (l : Launch) (y : MethodName) (ws : List Cond) (fr lo : Nat) (cI cJ cZ cMic cSrc cSt cAI cAJ : ClassId) (D : va_G) (ad : Nat → Nat) (T : AT) (As : List Value) (post : Int64 → AT → Prop) : Prop := ∀ sz : Nat, Met l y ws { frames := fr, cells := 0, slots := 0, locals := lo } (va_Pc As (kB cI cJ cZ cMic cSrc cSt cAI cAJ D ad T sz)) (va_Ql post (kAt cI cJ cZ cMic cSrc cSt cAI cAJ D ad (va_A (cW ad T.1 (cc cI cJ cZ cMic cSrc cSt cAI cAJ ad T)) sz)) (va_A (cW ad T.1 (cc cI cJ cZ cMic cSrc cSt cAI cAJ ad T)) sz)) 0 0 (va_A (cW ad T.1 (cc cI cJ cZ cMic cSrc cSt cAI cAJ ad T)) sz)
abbrev kCf (l : Launch) (y : MethodName) (ws : List Cond) (fr lo : Nat) (cI cJ cZ cMic cSrc cSt cAI cAJ : ClassId) (D : va_G) (ad : Nat → Nat) (T : AT) (As : List Value) (post : UInt32 → AT → Prop) : Prop := ∀ sz : Nat, Met l y ws { frames := fr, cells := 0, slots := 0, locals := lo } (va_Pc As (kB cI cJ cZ cMic cSrc cSt cAI cAJ D ad T sz)) (va_Qf post (kAt cI cJ cZ cMic cSrc cSt cAI cAJ D ad (va_A (cW ad T.1 (cc cI cJ cZ cMic cSrc cSt cAI cAJ ad T)) sz)) (va_A (cW ad T.1 (cc cI cJ cZ cMic cSrc cSt cAI cAJ ad T)) sz)) 0 0 (va_A (cW ad T.1 (cc cI cJ cZ cMic cSrc cSt cAI cAJ ad T)) sz)
abbrev kCv (l : Launch) (y : MethodName) (ws : List Cond) (fr lo : Nat) (cI cJ cZ cMic cSrc cSt cAI cAJ : ClassId) (D : va_G) (ad : Nat → Nat) (T : AT) (As : List Value) (post : AT → Prop) : Prop := ∀ sz : Nat, Met l y ws { frames := fr, cells := 0, slots := 0, locals := lo } (va_Pc As (kB cI cJ cZ cMic cSrc cSt cAI cAJ D ad T sz)) (va_Qv post (kAt cI cJ cZ cMic cSrc cSt cAI cAJ D ad (va_A (cW ad T.1 (cc cI cJ cZ cMic cSrc cSt cAI cAJ ad T)) sz)) (va_A (cW ad T.1 (cc cI cJ cZ cMic cSrc cSt cAI cAJ ad T)) sz)) 0 0 (va_A (cW ad T.1 (cc cI cJ cZ cMic cSrc cSt cAI cAJ ad T)) sz)
theorem q_cvi {p : Program} {l : Launch} {e : Env} {R : Room} {s : State} {m : MethodId} {args : Array Value} {below : List Frame} {meth : Method} {c : Code} {H : Heap} {locs : List Loc} {cells slots : Nat} {Q : State → Prop} {cc0 : ByteArray} {pc : Nat} {ls : Array Slot} {rest : List Value} {D : va_G} {A : Nat → Prop} {Ts : List Cond} {own : String} {cI cJ cZ cMic cSrc cSt cAI cAJ : ClassId} {ad : Nat → Nat} {T : AT} {y : MethodName} {bytes : ByteArray} {maxL nL n index fr lo : Nat} {ret : Option FieldType} {ws : List Cond} {As : List Value} {C : String} {TT : u_T} {nf ci q : Nat} {fs : List Value} {post : Int32 → AT → Prop} (E : cE p c cc0 s m args Ts D own (CT cI cJ cZ cMic cSrc cSt cAI cAJ)) (G : gC cI cJ cZ cMic cSrc cSt cAI cAJ D ad A s.heap H locs T) (hA : ∀ q, s.heap.size ≤ q → A q) (hX : xT A s) (hN : nX s) (hml : c.maxLocals = nL) (hM : kCi l y ws fr lo cI cJ cZ cMic cSrc cSt cAI cAJ D ad T (.ref (ad q) :: As) post) (cw : CallW R s args own C index y bytes maxL ret ws { frames := fr, cells := 0, slots := 0, locals := lo } 0 0 n) (hq : q < T.1) (hSq : cc cI cJ cZ cMic cSrc cSt cAI cAJ ad T q = .inr (ci, fs)) (hc : vwCl[ci]? = some (C, TT, nf)) (hn : As.length = n) (hsz : ls.size = nL) {st : List Value} (hst : st = As.reverse ++ .ref (ad q) :: rest) (hW : 2 * (F0 m pc ls st).monitorRoom + (rest.map fun v => v.category).sum ≤ 8) (hdg : decode cc0 pc = .ok (.invokevirtual index, 3)) (hf : cells + 0 ≤ R.cells ∧ slots + 0 ≤ R.slots) (kk : ∀ (r : Int32) (T1 : AT) (H1 : Heap) (locs1 : List Loc), post r T1 → gC cI cJ cZ cMic cSrc cSt cAI cAJ D ad A s.heap H1 locs1 T1 → W p l e R s m args below meth c H1 locs1 (cells + 0) (slots + 0) Q (F0 m (pc + 3) ls (.int r :: rest))) : W p l e R s m args below meth c H locs cells slots Q (F0 m pc ls st) := by
  obtain ⟨hx, hb, hts, hown, hK⟩ := E
  obtain ⟨hP, hD, hS⟩ := G
  have hFc := va_free (wc := cW ad T.1 (cc cI cJ cZ cMic cSrc cSt cAI cAJ ad T)) hD hS hA (List.range T.1) (cW_all ad T.1 (cc cI cJ cZ cMic cSrc cSt cAI cAJ ad T))
  refine va_calli (va_runV (As := As) (rest := rest) ⟨hx, hb, hml, hown, hts⟩ (hM H.size) cw ⟨fun a U g mk q => by obtain ⟨q0, q1, qP, qK, qD, qX, qN⟩ := q; exact ⟨q0, q1, qP, va_K.moved (u := U) (U := U.calling g mk a) (Vm.Alike.refl U.vm) qK, qD, qX.blind, nX.moved U (U.calling g mk a) (State.WarmedH.refl U) qN⟩, va_recv hK hP (ci := ci) (q0 := q) hc (cW_e hq hSq), fun U hU hW => ⟨rfl, by rw [hU], by rw [hU]; exact hP, va_K.moved hW.alike hK, hD.weaken (fun _ _ _ _ => trivial), hX.go hW hU hS hFc, nX.moved s U hW hN⟩⟩ rfl hn hsz hst hW hdg hf) hS (fun q _ h => hFc q h) hFc (fun r u t H1 locs1 ht hvm hw hB hz1 hk1 hS => ?_)
  obtain ⟨hP1, hK1, hD1⟩ := hB
  rw [ht] at hP1
  obtain ⟨hP2, hD2⟩ := va_join (wr := []) (w1 := cW ad u.1 (cc cI cJ cZ cMic cSrc cSt cAI cAJ ad u)) hP hD (List.range T.1) [] (cW_all ad T.1 (cc cI cJ cZ cMic cSrc cSt cAI cAJ ad T)) rfl rfl (fun i hi => absurd hi List.not_mem_nil) hk1 hFc hP1 hD1
  exact kk r u H1 locs1 hw ⟨hP2, hD2, hS⟩
theorem q_csi {p : Program} {l : Launch} {e : Env} {R : Room} {s : State} {m : MethodId} {args : Array Value} {below : List Frame} {meth : Method} {c : Code} {H : Heap} {locs : List Loc} {cells slots : Nat} {Q : State → Prop} {cc0 : ByteArray} {pc : Nat} {ls : Array Slot} {rest : List Value} {D : va_G} {A : Nat → Prop} {Ts : List Cond} {own : String} {cI cJ cZ cMic cSrc cSt cAI cAJ : ClassId} {ad : Nat → Nat} {T : AT} {y : MethodName} {bytes : ByteArray} {maxL nL n index fr lo : Nat} {ret : Option FieldType} {ws : List Cond} {As : List Value} {post : Int32 → AT → Prop} (E : cE p c cc0 s m args Ts D own (CT cI cJ cZ cMic cSrc cSt cAI cAJ)) (G : gC cI cJ cZ cMic cSrc cSt cAI cAJ D ad A s.heap H locs T) (hA : ∀ q, s.heap.size ≤ q → A q) (hX : xT A s) (hN : nX s) (hml : c.maxLocals = nL) (hM : kCi l y ws fr lo cI cJ cZ cMic cSrc cSt cAI cAJ D ad T (As) post) (cw : CallB R s args own index y bytes maxL ret ws { frames := fr, cells := 0, slots := 0, locals := lo } 0 0 n ∧ (Cond.static y).before args s = true) (hn : As.length = n) (hsz : ls.size = nL) {st : List Value} (hst : st = As.reverse ++ rest) (hW : 2 * (F0 m pc ls st).monitorRoom + (rest.map fun v => v.category).sum ≤ 8) (hdg : decode cc0 pc = .ok (.invokestatic index, 3)) (hf : cells + 0 ≤ R.cells ∧ slots + 0 ≤ R.slots) (kk : ∀ (r : Int32) (T1 : AT) (H1 : Heap) (locs1 : List Loc), post r T1 → gC cI cJ cZ cMic cSrc cSt cAI cAJ D ad A s.heap H1 locs1 T1 → W p l e R s m args below meth c H1 locs1 (cells + 0) (slots + 0) Q (F0 m (pc + 3) ls (.int r :: rest))) : W p l e R s m args below meth c H locs cells slots Q (F0 m pc ls st) := by
  obtain ⟨hx, hb, hts, hown, hK⟩ := E
  obtain ⟨hP, hD, hS⟩ := G
  have hFc := va_free (wc := cW ad T.1 (cc cI cJ cZ cMic cSrc cSt cAI cAJ ad T)) hD hS hA (List.range T.1) (cW_all ad T.1 (cc cI cJ cZ cMic cSrc cSt cAI cAJ ad T))
  refine va_calli (va_runS (As := As) (rest := rest) ⟨hx, hb, hml, hown, hts⟩ (hM H.size) cw ⟨fun a U g mk q => by obtain ⟨q0, q1, qP, qK, qD, qX, qN⟩ := q; exact ⟨q0, q1, qP, va_K.moved (u := U) (U := U.calling g mk a) (Vm.Alike.refl U.vm) qK, qD, qX.blind, nX.moved U (U.calling g mk a) (State.WarmedH.refl U) qN⟩, fun U hU hW => ⟨rfl, by rw [hU], by rw [hU]; exact hP, va_K.moved hW.alike hK, hD.weaken (fun _ _ _ _ => trivial), hX.go hW hU hS hFc, nX.moved s U hW hN⟩⟩ rfl hn hsz hst hW hdg hf) hS (fun q _ h => hFc q h) hFc (fun r u t H1 locs1 ht hvm hw hB hz1 hk1 hS => ?_)
  obtain ⟨hP1, hK1, hD1⟩ := hB
  rw [ht] at hP1
  obtain ⟨hP2, hD2⟩ := va_join (wr := []) (w1 := cW ad u.1 (cc cI cJ cZ cMic cSrc cSt cAI cAJ ad u)) hP hD (List.range T.1) [] (cW_all ad T.1 (cc cI cJ cZ cMic cSrc cSt cAI cAJ ad T)) rfl rfl (fun i hi => absurd hi List.not_mem_nil) hk1 hFc hP1 hD1
  exact kk r u H1 locs1 hw ⟨hP2, hD2, hS⟩
theorem q_cvl {p : Program} {l : Launch} {e : Env} {R : Room} {s : State} {m : MethodId} {args : Array Value} {below : List Frame} {meth : Method} {c : Code} {H : Heap} {locs : List Loc} {cells slots : Nat} {Q : State → Prop} {cc0 : ByteArray} {pc : Nat} {ls : Array Slot} {rest : List Value} {D : va_G} {A : Nat → Prop} {Ts : List Cond} {own : String} {cI cJ cZ cMic cSrc cSt cAI cAJ : ClassId} {ad : Nat → Nat} {T : AT} {y : MethodName} {bytes : ByteArray} {maxL nL n index fr lo : Nat} {ret : Option FieldType} {ws : List Cond} {As : List Value} {C : String} {TT : u_T} {nf ci q : Nat} {fs : List Value} {post : Int64 → AT → Prop} (E : cE p c cc0 s m args Ts D own (CT cI cJ cZ cMic cSrc cSt cAI cAJ)) (G : gC cI cJ cZ cMic cSrc cSt cAI cAJ D ad A s.heap H locs T) (hA : ∀ q, s.heap.size ≤ q → A q) (hX : xT A s) (hN : nX s) (hml : c.maxLocals = nL) (hM : kCl l y ws fr lo cI cJ cZ cMic cSrc cSt cAI cAJ D ad T (.ref (ad q) :: As) post) (cw : CallW R s args own C index y bytes maxL ret ws { frames := fr, cells := 0, slots := 0, locals := lo } 0 0 n) (hq : q < T.1) (hSq : cc cI cJ cZ cMic cSrc cSt cAI cAJ ad T q = .inr (ci, fs)) (hc : vwCl[ci]? = some (C, TT, nf)) (hn : As.length = n) (hsz : ls.size = nL) {st : List Value} (hst : st = As.reverse ++ .ref (ad q) :: rest) (hW : 2 * (F0 m pc ls st).monitorRoom + (rest.map fun v => v.category).sum ≤ 8) (hdg : decode cc0 pc = .ok (.invokevirtual index, 3)) (hf : cells + 0 ≤ R.cells ∧ slots + 0 ≤ R.slots) (kk : ∀ (r : Int64) (T1 : AT) (H1 : Heap) (locs1 : List Loc), post r T1 → gC cI cJ cZ cMic cSrc cSt cAI cAJ D ad A s.heap H1 locs1 T1 → W p l e R s m args below meth c H1 locs1 (cells + 0) (slots + 0) Q (F0 m (pc + 3) ls (.long r :: rest))) : W p l e R s m args below meth c H locs cells slots Q (F0 m pc ls st) := by
  obtain ⟨hx, hb, hts, hown, hK⟩ := E
  obtain ⟨hP, hD, hS⟩ := G
  have hFc := va_free (wc := cW ad T.1 (cc cI cJ cZ cMic cSrc cSt cAI cAJ ad T)) hD hS hA (List.range T.1) (cW_all ad T.1 (cc cI cJ cZ cMic cSrc cSt cAI cAJ ad T))
  refine va_calll (va_runV (As := As) (rest := rest) ⟨hx, hb, hml, hown, hts⟩ (hM H.size) cw ⟨fun a U g mk q => by obtain ⟨q0, q1, qP, qK, qD, qX, qN⟩ := q; exact ⟨q0, q1, qP, va_K.moved (u := U) (U := U.calling g mk a) (Vm.Alike.refl U.vm) qK, qD, qX.blind, nX.moved U (U.calling g mk a) (State.WarmedH.refl U) qN⟩, va_recv hK hP (ci := ci) (q0 := q) hc (cW_e hq hSq), fun U hU hW => ⟨rfl, by rw [hU], by rw [hU]; exact hP, va_K.moved hW.alike hK, hD.weaken (fun _ _ _ _ => trivial), hX.go hW hU hS hFc, nX.moved s U hW hN⟩⟩ rfl hn hsz hst hW hdg hf) hS (fun q _ h => hFc q h) hFc (fun r u t H1 locs1 ht hvm hw hB hz1 hk1 hS => ?_)
  obtain ⟨hP1, hK1, hD1⟩ := hB
  rw [ht] at hP1
  obtain ⟨hP2, hD2⟩ := va_join (wr := []) (w1 := cW ad u.1 (cc cI cJ cZ cMic cSrc cSt cAI cAJ ad u)) hP hD (List.range T.1) [] (cW_all ad T.1 (cc cI cJ cZ cMic cSrc cSt cAI cAJ ad T)) rfl rfl (fun i hi => absurd hi List.not_mem_nil) hk1 hFc hP1 hD1
  exact kk r u H1 locs1 hw ⟨hP2, hD2, hS⟩
theorem q_cvf {p : Program} {l : Launch} {e : Env} {R : Room} {s : State} {m : MethodId} {args : Array Value} {below : List Frame} {meth : Method} {c : Code} {H : Heap} {locs : List Loc} {cells slots : Nat} {Q : State → Prop} {cc0 : ByteArray} {pc : Nat} {ls : Array Slot} {rest : List Value} {D : va_G} {A : Nat → Prop} {Ts : List Cond} {own : String} {cI cJ cZ cMic cSrc cSt cAI cAJ : ClassId} {ad : Nat → Nat} {T : AT} {y : MethodName} {bytes : ByteArray} {maxL nL n index fr lo : Nat} {ret : Option FieldType} {ws : List Cond} {As : List Value} {C : String} {TT : u_T} {nf ci q : Nat} {fs : List Value} {post : UInt32 → AT → Prop} (E : cE p c cc0 s m args Ts D own (CT cI cJ cZ cMic cSrc cSt cAI cAJ)) (G : gC cI cJ cZ cMic cSrc cSt cAI cAJ D ad A s.heap H locs T) (hA : ∀ q, s.heap.size ≤ q → A q) (hX : xT A s) (hN : nX s) (hml : c.maxLocals = nL) (hM : kCf l y ws fr lo cI cJ cZ cMic cSrc cSt cAI cAJ D ad T (.ref (ad q) :: As) post) (cw : CallW R s args own C index y bytes maxL ret ws { frames := fr, cells := 0, slots := 0, locals := lo } 0 0 n) (hq : q < T.1) (hSq : cc cI cJ cZ cMic cSrc cSt cAI cAJ ad T q = .inr (ci, fs)) (hc : vwCl[ci]? = some (C, TT, nf)) (hn : As.length = n) (hsz : ls.size = nL) {st : List Value} (hst : st = As.reverse ++ .ref (ad q) :: rest) (hW : 2 * (F0 m pc ls st).monitorRoom + (rest.map fun v => v.category).sum ≤ 8) (hdg : decode cc0 pc = .ok (.invokevirtual index, 3)) (hf : cells + 0 ≤ R.cells ∧ slots + 0 ≤ R.slots) (kk : ∀ (r : UInt32) (T1 : AT) (H1 : Heap) (locs1 : List Loc), post r T1 → gC cI cJ cZ cMic cSrc cSt cAI cAJ D ad A s.heap H1 locs1 T1 → W p l e R s m args below meth c H1 locs1 (cells + 0) (slots + 0) Q (F0 m (pc + 3) ls (.float r :: rest))) : W p l e R s m args below meth c H locs cells slots Q (F0 m pc ls st) := by
  obtain ⟨hx, hb, hts, hown, hK⟩ := E
  obtain ⟨hP, hD, hS⟩ := G
  have hFc := va_free (wc := cW ad T.1 (cc cI cJ cZ cMic cSrc cSt cAI cAJ ad T)) hD hS hA (List.range T.1) (cW_all ad T.1 (cc cI cJ cZ cMic cSrc cSt cAI cAJ ad T))
  refine va_callf (va_runV (As := As) (rest := rest) ⟨hx, hb, hml, hown, hts⟩ (hM H.size) cw ⟨fun a U g mk q => by obtain ⟨q0, q1, qP, qK, qD, qX, qN⟩ := q; exact ⟨q0, q1, qP, va_K.moved (u := U) (U := U.calling g mk a) (Vm.Alike.refl U.vm) qK, qD, qX.blind, nX.moved U (U.calling g mk a) (State.WarmedH.refl U) qN⟩, va_recv hK hP (ci := ci) (q0 := q) hc (cW_e hq hSq), fun U hU hW => ⟨rfl, by rw [hU], by rw [hU]; exact hP, va_K.moved hW.alike hK, hD.weaken (fun _ _ _ _ => trivial), hX.go hW hU hS hFc, nX.moved s U hW hN⟩⟩ rfl hn hsz hst hW hdg hf) hS (fun q _ h => hFc q h) hFc (fun r u t H1 locs1 ht hvm hw hB hz1 hk1 hS => ?_)
  obtain ⟨hP1, hK1, hD1⟩ := hB
  rw [ht] at hP1
  obtain ⟨hP2, hD2⟩ := va_join (wr := []) (w1 := cW ad u.1 (cc cI cJ cZ cMic cSrc cSt cAI cAJ ad u)) hP hD (List.range T.1) [] (cW_all ad T.1 (cc cI cJ cZ cMic cSrc cSt cAI cAJ ad T)) rfl rfl (fun i hi => absurd hi List.not_mem_nil) hk1 hFc hP1 hD1
  exact kk r u H1 locs1 hw ⟨hP2, hD2, hS⟩
theorem q_cvv {p : Program} {l : Launch} {e : Env} {R : Room} {s : State} {m : MethodId} {args : Array Value} {below : List Frame} {meth : Method} {c : Code} {H : Heap} {locs : List Loc} {cells slots : Nat} {Q : State → Prop} {cc0 : ByteArray} {pc : Nat} {ls : Array Slot} {rest : List Value} {D : va_G} {A : Nat → Prop} {Ts : List Cond} {own : String} {cI cJ cZ cMic cSrc cSt cAI cAJ : ClassId} {ad : Nat → Nat} {T : AT} {y : MethodName} {bytes : ByteArray} {maxL nL n index fr lo : Nat} {ret : Option FieldType} {ws : List Cond} {As : List Value} {C : String} {TT : u_T} {nf ci q : Nat} {fs : List Value} {post : AT → Prop} (E : cE p c cc0 s m args Ts D own (CT cI cJ cZ cMic cSrc cSt cAI cAJ)) (G : gC cI cJ cZ cMic cSrc cSt cAI cAJ D ad A s.heap H locs T) (hA : ∀ q, s.heap.size ≤ q → A q) (hX : xT A s) (hN : nX s) (hml : c.maxLocals = nL) (hM : kCv l y ws fr lo cI cJ cZ cMic cSrc cSt cAI cAJ D ad T (.ref (ad q) :: As) post) (cw : CallW R s args own C index y bytes maxL ret ws { frames := fr, cells := 0, slots := 0, locals := lo } 0 0 n) (hq : q < T.1) (hSq : cc cI cJ cZ cMic cSrc cSt cAI cAJ ad T q = .inr (ci, fs)) (hc : vwCl[ci]? = some (C, TT, nf)) (hn : As.length = n) (hsz : ls.size = nL) {st : List Value} (hst : st = As.reverse ++ .ref (ad q) :: rest) (hW : 2 * (F0 m pc ls st).monitorRoom + (rest.map fun v => v.category).sum ≤ 8) (hdg : decode cc0 pc = .ok (.invokevirtual index, 3)) (hf : cells + 0 ≤ R.cells ∧ slots + 0 ≤ R.slots) (kk : ∀ (T1 : AT) (H1 : Heap) (locs1 : List Loc), post T1 → gC cI cJ cZ cMic cSrc cSt cAI cAJ D ad A s.heap H1 locs1 T1 → W p l e R s m args below meth c H1 locs1 (cells + 0) (slots + 0) Q (F0 m (pc + 3) ls rest)) : W p l e R s m args below meth c H locs cells slots Q (F0 m pc ls st) := by
  obtain ⟨hx, hb, hts, hown, hK⟩ := E
  obtain ⟨hP, hD, hS⟩ := G
  have hFc := va_free (wc := cW ad T.1 (cc cI cJ cZ cMic cSrc cSt cAI cAJ ad T)) hD hS hA (List.range T.1) (cW_all ad T.1 (cc cI cJ cZ cMic cSrc cSt cAI cAJ ad T))
  refine va_callv (va_runV (As := As) (rest := rest) ⟨hx, hb, hml, hown, hts⟩ (hM H.size) cw ⟨fun a U g mk q => by obtain ⟨q0, q1, qP, qK, qD, qX, qN⟩ := q; exact ⟨q0, q1, qP, va_K.moved (u := U) (U := U.calling g mk a) (Vm.Alike.refl U.vm) qK, qD, qX.blind, nX.moved U (U.calling g mk a) (State.WarmedH.refl U) qN⟩, va_recv hK hP (ci := ci) (q0 := q) hc (cW_e hq hSq), fun U hU hW => ⟨rfl, by rw [hU], by rw [hU]; exact hP, va_K.moved hW.alike hK, hD.weaken (fun _ _ _ _ => trivial), hX.go hW hU hS hFc, nX.moved s U hW hN⟩⟩ rfl hn hsz hst hW hdg hf) hS (fun q _ h => hFc q h) hFc (fun u t H1 locs1 ht hvm hw hB hz1 hk1 hS => ?_)
  obtain ⟨hP1, hK1, hD1⟩ := hB
  rw [ht] at hP1
  obtain ⟨hP2, hD2⟩ := va_join (wr := []) (w1 := cW ad u.1 (cc cI cJ cZ cMic cSrc cSt cAI cAJ ad u)) hP hD (List.range T.1) [] (cW_all ad T.1 (cc cI cJ cZ cMic cSrc cSt cAI cAJ ad T)) rfl rfl (fun i hi => absurd hi List.not_mem_nil) hk1 hFc hP1 hD1
  exact kk u H1 locs1 hw ⟨hP2, hD2, hS⟩
theorem q_csv {p : Program} {l : Launch} {e : Env} {R : Room} {s : State} {m : MethodId} {args : Array Value} {below : List Frame} {meth : Method} {c : Code} {H : Heap} {locs : List Loc} {cells slots : Nat} {Q : State → Prop} {cc0 : ByteArray} {pc : Nat} {ls : Array Slot} {rest : List Value} {D : va_G} {A : Nat → Prop} {Ts : List Cond} {own : String} {cI cJ cZ cMic cSrc cSt cAI cAJ : ClassId} {ad : Nat → Nat} {T : AT} {y : MethodName} {bytes : ByteArray} {maxL nL n index fr lo : Nat} {ret : Option FieldType} {ws : List Cond} {As : List Value} {post : AT → Prop} (E : cE p c cc0 s m args Ts D own (CT cI cJ cZ cMic cSrc cSt cAI cAJ)) (G : gC cI cJ cZ cMic cSrc cSt cAI cAJ D ad A s.heap H locs T) (hA : ∀ q, s.heap.size ≤ q → A q) (hX : xT A s) (hN : nX s) (hml : c.maxLocals = nL) (hM : kCv l y ws fr lo cI cJ cZ cMic cSrc cSt cAI cAJ D ad T (As) post) (cw : CallB R s args own index y bytes maxL ret ws { frames := fr, cells := 0, slots := 0, locals := lo } 0 0 n ∧ (Cond.static y).before args s = true) (hn : As.length = n) (hsz : ls.size = nL) {st : List Value} (hst : st = As.reverse ++ rest) (hW : 2 * (F0 m pc ls st).monitorRoom + (rest.map fun v => v.category).sum ≤ 8) (hdg : decode cc0 pc = .ok (.invokestatic index, 3)) (hf : cells + 0 ≤ R.cells ∧ slots + 0 ≤ R.slots) (kk : ∀ (T1 : AT) (H1 : Heap) (locs1 : List Loc), post T1 → gC cI cJ cZ cMic cSrc cSt cAI cAJ D ad A s.heap H1 locs1 T1 → W p l e R s m args below meth c H1 locs1 (cells + 0) (slots + 0) Q (F0 m (pc + 3) ls rest)) : W p l e R s m args below meth c H locs cells slots Q (F0 m pc ls st) := by
  obtain ⟨hx, hb, hts, hown, hK⟩ := E
  obtain ⟨hP, hD, hS⟩ := G
  have hFc := va_free (wc := cW ad T.1 (cc cI cJ cZ cMic cSrc cSt cAI cAJ ad T)) hD hS hA (List.range T.1) (cW_all ad T.1 (cc cI cJ cZ cMic cSrc cSt cAI cAJ ad T))
  refine va_callv (va_runS (As := As) (rest := rest) ⟨hx, hb, hml, hown, hts⟩ (hM H.size) cw ⟨fun a U g mk q => by obtain ⟨q0, q1, qP, qK, qD, qX, qN⟩ := q; exact ⟨q0, q1, qP, va_K.moved (u := U) (U := U.calling g mk a) (Vm.Alike.refl U.vm) qK, qD, qX.blind, nX.moved U (U.calling g mk a) (State.WarmedH.refl U) qN⟩, fun U hU hW => ⟨rfl, by rw [hU], by rw [hU]; exact hP, va_K.moved hW.alike hK, hD.weaken (fun _ _ _ _ => trivial), hX.go hW hU hS hFc, nX.moved s U hW hN⟩⟩ rfl hn hsz hst hW hdg hf) hS (fun q _ h => hFc q h) hFc (fun u t H1 locs1 ht hvm hw hB hz1 hk1 hS => ?_)
  obtain ⟨hP1, hK1, hD1⟩ := hB
  rw [ht] at hP1
  obtain ⟨hP2, hD2⟩ := va_join (wr := []) (w1 := cW ad u.1 (cc cI cJ cZ cMic cSrc cSt cAI cAJ ad u)) hP hD (List.range T.1) [] (cW_all ad T.1 (cc cI cJ cZ cMic cSrc cSt cAI cAJ ad T)) rfl rfl (fun i hi => absurd hi List.not_mem_nil) hk1 hFc hP1 hD1
  exact kk u H1 locs1 hw ⟨hP2, hD2, hS⟩
/-- Met.ofW where the class is one whose rows the machine has of its own (java/lang/Math), the method not -/
theorem met_ofF {l : Launch} {y : MethodName} {ws ws' : List Cond} {rm : Room} {Pc : Array Value → State → Prop} {Qc : Array Value → State → Outcome → State → Prop} {mc ms : Nat} {free : Addr → Prop} {cc : ByteArray} {maxL : Nat} {ret : Option FieldType} (hy : plainFor y = true) (hw : ws = Cond.code y cc maxL ret :: ws') (body : ∀ p e s m args below meth c s₁, BodyLoose p l y (headSpec ws rm) cc maxL ret e s m args below meth c s₁ → c.maxLocals = maxL → Pc args s → W p l e (headSpec ws rm).room s m args below meth c s.heap [] 0 0 (MQ below Qc args s mc ms free) (entryFrame m args maxL)) : Met l y ws rm Pc Qc mc ms free := by
  refine MetFree.of_bodySF (code := cc) (maxLocals := maxL) (ret := ret) hy (fun args s m h hn => ?_) (fun p e s m args below meth c s₁ B hml hP _ => ?_)
  · obtain ⟨meth, c, h1, h2, h3, h4, h5, h6, -, -⟩ := Cond.code_spec hn (atoms_spec (ws := ws) h _ (by rw [hw]; exact List.mem_cons_self))
    exact ⟨meth, c, h1, h2, h3, h4, h5, h6⟩
  · have hh0 : s₁.heap = s.heap := by rw [B.state]; rfl
    obtain ⟨t, a1, o, b1, b2, b3⟩ := body p e s m args below meth c s₁ B hml hP s₁ hh0 (Stand.of_body B)
    exact ⟨t, o, a1, b1, b2, ⟨b3.1, b3.2⟩⟩
/-- no cell is made, none gets another kind, no reference is written -/
def SP (T T1 : AT) : Prop := T1.1 = T.1 ∧ T1.2.1 = T.2.1 ∧ T1.2.2.2.2 = T.2.2.2.2
theorem SP.rf (T : AT) : SP T T := ⟨rfl, rfl, rfl⟩
theorem SP.tr {T T1 T2 : AT} (h : SP T T1) (k : SP T1 T2) : SP T T2 := ⟨k.1.trans h.1, k.2.1.trans h.2.1, k.2.2.trans h.2.2⟩
theorem sp_uI {T : AT} {n k : Nat} {v : Int32} : SP T (uI T n k v) := ⟨rfl, rfl, rfl⟩
theorem sp_uJ {T : AT} {n k : Nat} {v : Int64} : SP T (uJ T n k v) := ⟨rfl, rfl, rfl⟩
theorem oif_or {β : Type} {c : Prop} [Decidable c] {x z : Option β} {y : β} (h : (if c then x else z) = some y) : (c ∧ x = some y) ∨ (¬ c ∧ z = some y) := by
  by_cases hc : c
  · rw [if_pos hc] at h
    exact .inl ⟨hc, h⟩
  · rw [if_neg hc] at h
    exact .inr ⟨hc, h⟩
def uC (T : AT) (a b k : Nat) : AT := (T.1, T.2.1, T.2.2.1, va_up T.2.2.2.1 b (va_cpy (T.2.2.2.1 a) (T.2.2.2.1 b) 0 0 k), T.2.2.2.2)
theorem sp_uC {T : AT} {a b k : Nat} : SP T (uC T a b k) := ⟨rfl, rfl, rfl⟩
theorem q_copyl {p : Program} {l : Launch} {e : Env} {R : Room} {s : State} {m : MethodId} {args : Array Value} {below : List Frame} {meth : Method} {c : Code} {H : Heap} {locs : List Loc} {cells slots : Nat} {Q : State → Prop} {cc0 : ByteArray} {pc : Nat} {ls : Array Slot} {rest : List Value} {D : va_G} {A : Nat → Prop} {Ts : List Cond} {own : String} {cI cJ cZ cMic cSrc cSt cAI cAJ : ClassId} {ad : Nat → Nat} {T : AT} (E : cE p c cc0 s m args Ts D own (CT cI cJ cZ cMic cSrc cSt cAI cAJ)) (G : gC cI cJ cZ cMic cSrc cSt cAI cAJ D ad A s.heap H locs T) (a b : Nat) {n : Int32} {index : Nat} (ha : a < T.1) (hb2 : b < T.1) (ka : (T.2.1 a).1 = 101) (kb : (T.2.1 b).1 = 101) (hn : 0 ≤ n) (h4 : n.toNatClampNeg ≤ (T.2.1 a).2) (h5 : n.toNatClampNeg ≤ (T.2.1 b).2) (hml : c.maxLocals = ls.size) (hlink : (Cond.methodLink own index arraycopyName).before args s = true) (hnat : (Cond.native arraycopyName).before args s = true) (hstat : (Cond.static arraycopyName).before args s = true) (hini : (Cond.initialized "java/lang/System").before args s = true) (hframes : 1 ≤ R.frames) (hlocals : (rest.map fun v => v.category).sum + (nativeFrameWords "java/lang/System" "arraycopy" 5 + 11) ≤ R.locals) (hdg : decode cc0 pc = .ok (.invokestatic index, 3)) (kk : ∀ (H1 : Heap) (locs1 : List Loc), gC cI cJ cZ cMic cSrc cSt cAI cAJ D ad A s.heap H1 locs1 (uC T a b n.toNatClampNeg) → W p l e R s m args below meth c H1 locs1 cells slots Q (F0 m (pc + 3) ls rest)) : W p l e R s m args below meth c H locs cells slots Q (F0 m pc ls (.int n :: .int 0 :: .ref (ad b) :: .int 0 :: .ref (ad a) :: rest)) := by
  refine va_copyl E.1 E.2.1 hml E.2.2.2.1 hlink hnat hstat hini E.2.2.2.2 G.1 G.2.1 G.2.2 a b 1 1 (cW_e ha (cc_a101 ka)) (cW_e hb2 (cc_a101 kb)) rfl rfl rfl (by decide) (by decide) (Int32.not_lt.mpr hn) (by show 0 + _ ≤ _; omega) (by show 0 + _ ≤ _; omega) (fun _ _ => rfl) hframes hlocals hdg (fun H1 locs1 h1 h2 h3 => kk H1 locs1 ?_)
  have e := cW_set (ad := ad) (S := cc cI cJ cZ cMic cSrc cSt cAI cAJ ad T) (e := (.inl (cJ, (T.2.1 b).2, .inr (.inl (va_cpy (T.2.2.2.1 a) (T.2.2.2.1 b) 0 0 n.toNatClampNeg))) : va_E)) hb2
  rw [show (0 : Int32).toNatClampNeg = 0 from by decide] at h1 h2
  rw [e] at h1 h2
  exact gC_up_j (f := va_cpy (T.2.2.2.1 a) (T.2.2.2.1 b) 0 0 n.toNatClampNeg) (ccv_101 kb) ⟨h1, h2, h3⟩
def RC (T : AT) : Prop := ∀ n k q, T.2.2.2.2 n k = some q → q < T.1
def newJ (T : AT) (K : Nat) : AT := (T.1 + 1, va_up T.2.1 T.1 (101, K), T.2.2.1, va_up T.2.2.2.1 T.1 (fun _ => 0), T.2.2.2.2)
def sgA (f : Nat → Nat × Nat) : Nat → Nat
  | 0 => 0
  | n + 1 => sgA f n + (f n).2
def sg (T : AT) : Nat := sgA T.2.1 T.1
def GL (T T1 : AT) : Prop := T.1 ≤ T1.1 ∧ (∀ n, n < T.1 → T1.2.1 n = T.2.1 n) ∧ (RC T → RC T1)
theorem GL.rf (T : AT) : GL T T := ⟨Nat.le_refl _, fun _ _ => rfl, fun h => h⟩
theorem GL.tr {T T1 T2 : AT} (h : GL T T1) (k : GL T1 T2) : GL T T2 := ⟨Nat.le_trans h.1 k.1, fun n hn => (k.2.1 n (Nat.lt_of_lt_of_le hn h.1)).trans (h.2.1 n hn), fun q => k.2.2 (h.2.2 q)⟩
theorem gl_sp {T T1 : AT} (h : SP T T1) : GL T T1 := ⟨Nat.le_of_eq h.1.symm, fun n _ => congrFun h.2.1 n, fun q n k x hx => by rw [h.1]; exact q n k x (by rw [← h.2.2]; exact hx)⟩
theorem gl_uR {T : AT} {n k x : Nat} (hx : x < T.1) : GL T (uR T n k x) := by
  refine ⟨Nat.le_refl _, fun _ _ => rfl, fun q m j y hy => ?_⟩
  show y < T.1
  have hy : va_up T.2.2.2.2 n (va_up (T.2.2.2.2 n) k (some x)) m j = some y := hy
  by_cases e : m = n
  · subst e
    rw [va_up_self] at hy
    by_cases e2 : j = k
    · subst e2
      rw [va_up_self] at hy
      cases hy
      exact hx
    · rw [va_up_ne _ _ e2] at hy
      exact q m j y hy
  · rw [va_up_ne _ _ e] at hy
    exact q m j y hy
theorem gl_newJ {T : AT} {K : Nat} : GL T (newJ T K) := ⟨Nat.le_succ _, fun n hn => va_up_ne T.2.1 _ (Nat.ne_of_lt hn), fun q n k x hx => Nat.lt_succ_of_lt (q n k x hx)⟩
theorem sgA_congr {f g : Nat → Nat × Nat} : ∀ N, (∀ n, n < N → f n = g n) → sgA f N = sgA g N
  | 0, _ => rfl
  | N + 1, h => by
    show sgA f N + (f N).2 = sgA g N + (g N).2
    rw [sgA_congr N (fun n hn => h n (Nat.lt_succ_of_lt hn)), h N (Nat.lt_succ_self N)]
theorem sgA_mono {f : Nat → Nat × Nat} {a b : Nat} (h : a ≤ b) : sgA f a ≤ sgA f b := by
  induction h with
  | refl => exact Nat.le_refl _
  | step _ ih => exact Nat.le_trans ih (Nat.le_add_right _ _)
theorem sg_le {T T1 : AT} (h : GL T T1) : sg T ≤ sg T1 := by
  unfold sg
  rw [← sgA_congr T.1 h.2.1]
  exact sgA_mono h.1
theorem sg_newJ {T : AT} {K : Nat} : sg (newJ T K) = sg T + K := by
  show sgA (va_up T.2.1 T.1 (101, K)) T.1 + (va_up T.2.1 T.1 (101, K) T.1).2 = sg T + K
  rw [va_up_self, sgA_congr (g := T.2.1) T.1 (fun n hn => va_up_ne T.2.1 _ (Nat.ne_of_lt hn))]
  rfl
def CPR (Tb T : AT) : Prop := T.1 = Tb.1 ∧ T.2.1 = Tb.2.1 ∧ RC T
theorem cpr0 {T : AT} (h : RC T) : CPR T T := ⟨rfl, rfl, h⟩
theorem cpr_sp {Tb T T2 : AT} (h : CPR Tb T) (k : SP T T2) : CPR Tb T2 := ⟨k.1.trans h.1, k.2.1.trans h.2.1, (gl_sp k).2.2 h.2.2⟩
theorem cpr_uR {Tb T : AT} {n k x : Nat} (h : CPR Tb T) (hx : x < T.1) : CPR Tb (uR T n k x) := ⟨h.1, h.2.1, (gl_uR hx).2.2 h.2.2⟩
theorem sg_cpr {Tb T : AT} (h : CPR Tb T) : sg T = sg Tb := by
  unfold sg
  rw [h.1, h.2.1]
theorem gl_cpr {T0 Tb T : AT} (h : GL T0 Tb) (k : CPR Tb T) : GL T0 T := ⟨by rw [k.1]; exact h.1, fun n hn => by rw [k.2.1]; exact h.2.1 n hn, fun _ => k.2.2⟩
theorem cs_ok {T0 T T1 : AT} (_ : GL T0 T) (k : GL T T1) : (T.1 - T0.1) + 0 ≤ T1.1 - T0.1 ∧ (sg T - sg T0) + 0 ≤ sg T1 - sg T0 := ⟨Nat.sub_le_sub_right k.1 _, Nat.sub_le_sub_right (sg_le k) _⟩
theorem cs_okx {T0 T T1 : AT} (h : GL T0 T) (k : GL T T1) : (T.1 - T0.1) + 0 ≤ T1.1 - T0.1 + 1 ∧ (sg T - sg T0) + 0 ≤ sg T1 - sg T0 + 6 := ⟨Nat.le_trans (cs_ok h k).1 (Nat.le_add_right _ _), Nat.le_trans (cs_ok h k).2 (Nat.le_add_right _ _)⟩
theorem cs_okx1 {T0 T T1 : AT} (h : GL T0 T) (k : GL T T1) : (T.1 - T0.1) + 1 ≤ T1.1 - T0.1 + 1 ∧ (sg T - sg T0) + 6 ≤ sg T1 - sg T0 + 6 := ⟨Nat.add_le_add_right (cs_ok h k).1 _, Nat.add_le_add_right (cs_ok h k).2 _⟩
theorem cs_new {T0 Tb T T1 T2 : AT} {K : Nat} (h : GL T0 Tb) (c : CPR Tb T) (k : GL T2 T1) (e1 : T2.1 = T.1 + 1) (e2 : sg T2 = sg T + K) : (Tb.1 - T0.1) + 1 ≤ T1.1 - T0.1 ∧ (sg Tb - sg T0) + K ≤ sg T1 - sg T0 := by
  have a := h.1
  have b := k.1
  have c1 := sg_le h
  have d := sg_le k
  have x := c.1
  have y := sg_cpr c
  exact ⟨by omega, by omega⟩
theorem cs_e1 {T0 Tb T T2 : AT} (h : GL T0 Tb) (c : CPR Tb T) (e1 : T2.1 = T.1 + 1) : (Tb.1 - T0.1) + 1 = T2.1 - T0.1 := by
  have a := h.1
  have x := c.1
  omega
theorem cs_e2 {T0 Tb T T2 : AT} {K : Nat} (h : GL T0 Tb) (c : CPR Tb T) (e2 : sg T2 = sg T + K) : (sg Tb - sg T0) + K = sg T2 - sg T0 := by
  have a := sg_le h
  have x := sg_cpr c
  omega
theorem cs_f1 {T0 Tb T T2 : AT} (h : GL T0 Tb) (c : CPR Tb T) (g : GL T T2) : (Tb.1 - T0.1) + (T2.1 - T.1) = T2.1 - T0.1 := by
  have a := h.1
  have x := c.1
  have y := g.1
  omega
theorem cs_f2 {T0 Tb T T2 : AT} (h : GL T0 Tb) (c : CPR Tb T) (g : GL T T2) : (sg Tb - sg T0) + (sg T2 - sg T) = sg T2 - sg T0 := by
  have a := sg_le h
  have x := sg_cpr c
  have y := sg_le g
  omega
theorem cs_av {T0 Tb T T1 T2 : AT} (h : GL T0 Tb) (c : CPR Tb T) (g : GL T T2) (k : GL T2 T1) : (Tb.1 - T0.1) + (T2.1 - T.1) ≤ T1.1 - T0.1 ∧ (sg Tb - sg T0) + (sg T2 - sg T) ≤ sg T1 - sg T0 := by
  rw [cs_f1 h c g, cs_f2 h c g]
  exact ⟨Nat.sub_le_sub_right k.1 _, Nat.sub_le_sub_right (sg_le k) _⟩
theorem cs_avx {T0 Tb T T1 T2 : AT} (h : GL T0 Tb) (c : CPR Tb T) (g : GL T T2) (k : GL T2 T1) : (Tb.1 - T0.1) + (T2.1 - T.1) ≤ T1.1 - T0.1 + 1 ∧ (sg Tb - sg T0) + (sg T2 - sg T) ≤ sg T1 - sg T0 + 6 := ⟨Nat.le_trans (cs_av h c g k).1 (Nat.le_add_right _ _), Nat.le_trans (cs_av h c g k).2 (Nat.le_add_right _ _)⟩
theorem w_cast {p : Program} {l : Launch} {e : Env} {R : Room} {s : State} {m : MethodId} {args : Array Value} {below : List Frame} {meth : Method} {c : Code} {H : Heap} {locs : List Loc} {Q : State → Prop} {g : JFrame} {c1 c2 s1 s2 : Nat} (hc : c1 = c2) (hs : s1 = s2) (k : W p l e R s m args below meth c H locs c2 s2 Q g) : W p l e R s m args below meth c H locs c1 s1 Q g := by
  subst hc
  subst hs
  exact k
theorem w_st {p : Program} {l : Launch} {e : Env} {R : Room} {s : State} {m : MethodId} {args : Array Value} {below : List Frame} {meth : Method} {c : Code} {H : Heap} {locs : List Loc} {cells slots : Nat} {Q : State → Prop} {pc : Nat} {ls : Array Slot} {st1 st2 : List Value} (h : st1 = st2) (k : W p l e R s m args below meth c H locs cells slots Q (F0 m pc ls st2)) : W p l e R s m args below meth c H locs cells slots Q (F0 m pc ls st1) := by
  subst h
  exact k
theorem map_up {ad : Nat → Nat} {f : Nat → Option Nat} {k x : Nat} : (fun i => (va_up f k (some x) i).map ad) = va_up (fun i => (f i).map ad) k (some (ad x)) := by
  funext i
  by_cases q : i = k
  · subst q
    rw [va_up_self, va_up_self]
    rfl
  · rw [va_up_ne _ _ q, va_up_ne _ _ q]
theorem ccv_ad {cI cJ cZ cMic cSrc cSt cAI cAJ : ClassId} {ad : Nat → Nat} {ad2 : Nat → Nat} {sh : Nat × Nat} {vi : Nat → Int32} {vj : Nat → Int64} {vr : Nat → Option Nat} (h : ∀ k q, vr k = some q → ad2 q = ad q) : ccv cI cJ cZ cMic cSrc cSt cAI cAJ ad2 sh vi vj vr = ccv cI cJ cZ cMic cSrc cSt cAI cAJ ad sh vi vj vr := by
  have e : (fun k => (vr k).map ad2) = fun k => (vr k).map ad := by
    funext k
    cases hk : vr k with
    | none => rfl
    | some q => exact congrArg some (h k q hk)
  have e1 : ∀ k, (vr k).map ad2 = (vr k).map ad := fun k => congrFun e k
  unfold ccv
  simp only [e1]
theorem gC_new {cI cJ cZ cMic cSrc cSt cAI cAJ : ClassId} {ad : Nat → Nat} {D : va_G} {A : Nat → Prop} {H0 H : Heap} {locs : List Loc} {T : AT} {q K : Nat} (hrc : RC T) (G : cG D (cat T.1 ad (fun _ => q)) (T.1 + 1) A H0 H locs (cat T.1 (cc cI cJ cZ cMic cSrc cSt cAI cAJ ad T) (fun _ => .inl (cJ, K, .inr (.inl (fun _ => 0)))))) : gC cI cJ cZ cMic cSrc cSt cAI cAJ D (cat T.1 ad (fun _ => q)) A H0 H locs (newJ T K) := by
  have e : cW (cat T.1 ad (fun _ => q)) (T.1 + 1) (cat T.1 (cc cI cJ cZ cMic cSrc cSt cAI cAJ ad T) (fun _ => .inl (cJ, K, .inr (.inl (fun _ => 0))))) = cW (cat T.1 ad (fun _ => q)) (T.1 + 1) (cc cI cJ cZ cMic cSrc cSt cAI cAJ (cat T.1 ad (fun _ => q)) (newJ T K)) := by
    refine cW_congr (fun n hn => ?_)
    unfold cc
    show _ = ccv cI cJ cZ cMic cSrc cSt cAI cAJ (cat T.1 ad (fun _ => q)) (va_up T.2.1 T.1 (101, K) n) (T.2.2.1 n) (va_up T.2.2.2.1 T.1 (fun _ => 0) n) (T.2.2.2.2 n)
    rw [ccv_ad (ad2 := cat T.1 ad (fun _ => q)) (ad := ad) (fun k x hx => cat_lo (hrc n k x hx))]
    rcases Nat.lt_or_eq_of_le (Nat.le_of_lt_succ hn) with h1 | rfl
    · rw [cat_lo h1]
      show ccv cI cJ cZ cMic cSrc cSt cAI cAJ ad (T.2.1 n) (T.2.2.1 n) (T.2.2.2.1 n) (T.2.2.2.2 n) = ccv cI cJ cZ cMic cSrc cSt cAI cAJ ad (va_up T.2.1 T.1 (101, K) n) (T.2.2.1 n) (va_up T.2.2.2.1 T.1 (fun _ => 0) n) (T.2.2.2.2 n)
      rw [va_up_ne _ _ (Nat.ne_of_lt h1), va_up_ne _ _ (Nat.ne_of_lt h1)]
    · rw [cat_hi (Nat.le_refl _)]
      show _ = ccv cI cJ cZ cMic cSrc cSt cAI cAJ ad (va_up T.2.1 T.1 (101, K) T.1) (T.2.2.1 T.1) (va_up T.2.2.2.1 T.1 (fun _ => 0) T.1) (T.2.2.2.2 T.1)
      rw [va_up_self, va_up_self, ccv_101 rfl]
  obtain ⟨h1, h2, h3⟩ := G
  rw [e] at h1 h2
  exact ⟨h1, h2, h3⟩
def exn (e : Nat) : String := match e with
  | 0 => xISE
  | 1 => xIOB
  | _ => xIAE
def othr {α β : Type} (x : Option (Nat × α × AT)) (z : β) (f : α → AT → Option (Nat × β × AT)) : Option (Nat × β × AT) := match x with
  | none => none
  | some (0, r, T) => f r T
  | some (k + 1, _, T) => some (k + 1, z, T)
theorem osome3 {α β γ : Type} {a b : α} {x y : β} {u v : γ} (h : some (a, x, u) = some (b, y, v)) : a = b ∧ x = y ∧ u = v := ⟨congrArg Prod.fst (Option.some.inj h), congrArg (fun q => q.2.1) (Option.some.inj h), congrArg (fun q => q.2.2) (Option.some.inj h)⟩
theorem othr_n {α β : Type} {x : Option (Nat × α × AT)} {z : β} {f : α → AT → Option (Nat × β × AT)} {r1 : β} {T1 : AT} (h : othr x z f = some (0, r1, T1)) : ∃ r T, x = some (0, r, T) ∧ f r T = some (0, r1, T1) := by
  match x, h with
  | none, h => cases h
  | some (0, r, T), h => exact ⟨r, T, rfl, h⟩
  | some (k + 1, r, T), h => exact (Nat.succ_ne_zero _ (congrArg Prod.fst (Option.some.inj h))).elim
theorem othr_s {α β : Type} {x : Option (Nat × α × AT)} {z : β} {f : α → AT → Option (Nat × β × AT)} {e1 : Nat} {r1 : β} {T1 : AT} (h : othr x z f = some (e1, r1, T1)) : (∃ k r, x = some (k, r, T1) ∧ e1 = k) ∨ ∃ r T, x = some (0, r, T) ∧ f r T = some (e1, r1, T1) := by
  match x, h with
  | none, h => cases h
  | some (0, r, T), h => exact .inr ⟨r, T, rfl, h⟩
  | some (k + 1, r, T), h =>
    have h := osome3 h
    refine .inl ⟨k + 1, r, ?_, h.1.symm⟩
    rw [h.2.2]
theorem othr_t {α β : Type} {x : Option (Nat × α × AT)} {z : β} {f : α → AT → Option (Nat × β × AT)} {e1 : Nat} {r1 : β} {T1 : AT} (h : othr x z f = some (e1 + 1, r1, T1)) : (∃ r, x = some (e1 + 1, r, T1)) ∨ ∃ r T, x = some (0, r, T) ∧ f r T = some (e1 + 1, r1, T1) := by
  match x, h with
  | none, h => cases h
  | some (0, r, T), h => exact .inr ⟨r, T, rfl, h⟩
  | some (k + 1, r, T), h =>
    have h := osome3 h
    refine .inl ⟨r, ?_⟩
    rw [h.1, h.2.2]
abbrev kCr (l : Launch) (y : MethodName) (ws : List Cond) (fr lo : Nat) (cI cJ cZ cMic cSrc cSt cAI cAJ : ClassId) (D : va_G) (ad : Nat → Nat) (T : AT) (As : List Value) (post : AT → Prop) (n1 : Nat) : Prop := ∀ sz : Nat, Met l y ws { frames := fr, cells := 0, slots := 0, locals := lo } (va_Pc As (kB cI cJ cZ cMic cSrc cSt cAI cAJ D ad T sz)) (va_Qr post (fun u a t => a = ad n1 ∧ kAt cI cJ cZ cMic cSrc cSt cAI cAJ D ad (va_A (cW ad T.1 (cc cI cJ cZ cMic cSrc cSt cAI cAJ ad T)) sz) u t) (va_A (cW ad T.1 (cc cI cJ cZ cMic cSrc cSt cAI cAJ ad T)) sz)) 0 0 (va_A (cW ad T.1 (cc cI cJ cZ cMic cSrc cSt cAI cAJ ad T)) sz)
theorem q_cvr {p : Program} {l : Launch} {e : Env} {R : Room} {s : State} {m : MethodId} {args : Array Value} {below : List Frame} {meth : Method} {c : Code} {H : Heap} {locs : List Loc} {cells slots : Nat} {Q : State → Prop} {cc0 : ByteArray} {pc : Nat} {ls : Array Slot} {rest : List Value} {D : va_G} {A : Nat → Prop} {Ts : List Cond} {own : String} {cI cJ cZ cMic cSrc cSt cAI cAJ : ClassId} {ad : Nat → Nat} {T : AT} {y : MethodName} {bytes : ByteArray} {maxL nL n index fr lo : Nat} {ret : Option FieldType} {ws : List Cond} {As : List Value} {C : String} {TT : u_T} {nf ci q n1 : Nat} {fs : List Value} {post : AT → Prop} (E : cE p c cc0 s m args Ts D own (CT cI cJ cZ cMic cSrc cSt cAI cAJ)) (G : gC cI cJ cZ cMic cSrc cSt cAI cAJ D ad A s.heap H locs T) (hA : ∀ q, s.heap.size ≤ q → A q) (hX : xT A s) (hN : nX s) (hml : c.maxLocals = nL) (hM : kCr l y ws fr lo cI cJ cZ cMic cSrc cSt cAI cAJ D ad T (.ref (ad q) :: As) post n1) (cw : CallW R s args own C index y bytes maxL ret ws { frames := fr, cells := 0, slots := 0, locals := lo } 0 0 n) (hq : q < T.1) (hSq : cc cI cJ cZ cMic cSrc cSt cAI cAJ ad T q = .inr (ci, fs)) (hc : vwCl[ci]? = some (C, TT, nf)) (hn : As.length = n) (hsz : ls.size = nL) {st : List Value} (hst : st = As.reverse ++ .ref (ad q) :: rest) (hW : 2 * (F0 m pc ls st).monitorRoom + (rest.map fun v => v.category).sum ≤ 8) (hdg : decode cc0 pc = .ok (.invokevirtual index, 3)) (hf : cells + 0 ≤ R.cells ∧ slots + 0 ≤ R.slots) (kk : ∀ (T1 : AT) (H1 : Heap) (locs1 : List Loc), post T1 → gC cI cJ cZ cMic cSrc cSt cAI cAJ D ad A s.heap H1 locs1 T1 → W p l e R s m args below meth c H1 locs1 (cells + 0) (slots + 0) Q (F0 m (pc + 3) ls (.ref (ad n1) :: rest))) : W p l e R s m args below meth c H locs cells slots Q (F0 m pc ls st) := by
  obtain ⟨hx, hb, hts, hown, hK⟩ := E
  obtain ⟨hP, hD, hS⟩ := G
  have hFc := va_free (wc := cW ad T.1 (cc cI cJ cZ cMic cSrc cSt cAI cAJ ad T)) hD hS hA (List.range T.1) (cW_all ad T.1 (cc cI cJ cZ cMic cSrc cSt cAI cAJ ad T))
  refine va_callr (va_runV (As := As) (rest := rest) ⟨hx, hb, hml, hown, hts⟩ (hM H.size) cw ⟨fun a U g mk q => by obtain ⟨q0, q1, qP, qK, qD, qX, qN⟩ := q; exact ⟨q0, q1, qP, va_K.moved (u := U) (U := U.calling g mk a) (Vm.Alike.refl U.vm) qK, qD, qX.blind, nX.moved U (U.calling g mk a) (State.WarmedH.refl U) qN⟩, va_recv hK hP (ci := ci) (q0 := q) hc (cW_e hq hSq), fun U hU hW => ⟨rfl, by rw [hU], by rw [hU]; exact hP, va_K.moved hW.alike hK, hD.weaken (fun _ _ _ _ => trivial), hX.go hW hU hS hFc, nX.moved s U hW hN⟩⟩ rfl hn hsz hst hW hdg hf) hS (fun q _ h => hFc q h) hFc (fun u ra t H1 locs1 ht hvm hw hB hz1 hk1 hS => ?_)
  obtain ⟨ha, hP1, hK1, hD1⟩ := hB
  rw [ht] at hP1
  rw [ha]
  obtain ⟨hP2, hD2⟩ := va_join (wr := []) (w1 := cW ad u.1 (cc cI cJ cZ cMic cSrc cSt cAI cAJ ad u)) hP hD (List.range T.1) [] (cW_all ad T.1 (cc cI cJ cZ cMic cSrc cSt cAI cAJ ad T)) rfl rfl (fun i hi => absurd hi List.not_mem_nil) hk1 hFc hP1 hD1
  exact kk u H1 locs1 hw ⟨hP2, hD2, hS⟩
abbrev kXi (l : Launch) (y : MethodName) (ws : List Cond) (fr lo : Nat) (cI cJ cZ cMic cSrc cSt cAI cAJ : ClassId) (D : va_G) (ad : Nat → Nat) (T : AT) (As : List Value) (e1 : Nat) (T1 : AT) : Prop := ∀ sz : Nat, vx_Met l y ws { frames := fr, cells := 1, slots := 6, locals := lo } (va_Pc As (kB cI cJ cZ cMic cSrc cSt cAI cAJ D ad T sz)) (va_Qi (fun (_ : Int32) (_ : AT) => False) (kAt cI cJ cZ cMic cSrc cSt cAI cAJ D ad (va_A (cW ad T.1 (cc cI cJ cZ cMic cSrc cSt cAI cAJ ad T)) sz)) (va_A (cW ad T.1 (cc cI cJ cZ cMic cSrc cSt cAI cAJ ad T)) sz)) (vx_X (fun _ => True) (fun E u t => (E = exn e1 ∧ u = T1) ∧ kAt cI cJ cZ cMic cSrc cSt cAI cAJ D ad (va_A (cW ad T.1 (cc cI cJ cZ cMic cSrc cSt cAI cAJ ad T)) sz) u t) (va_A (cW ad T.1 (cc cI cJ cZ cMic cSrc cSt cAI cAJ ad T)) sz)) 1 6 (va_A (cW ad T.1 (cc cI cJ cZ cMic cSrc cSt cAI cAJ ad T)) sz)
theorem q_xvi {p : Program} {l : Launch} {e : Env} {R : Room} {s : State} {m : MethodId} {args : Array Value} {below : List Frame} {meth : Method} {c : Code} {H : Heap} {locs : List Loc} {cells slots : Nat} {Q : State → Prop} {cc0 : ByteArray} {pc : Nat} {ls : Array Slot} {rest : List Value} {D : va_G} {A : Nat → Prop} {Ts : List Cond} {own : String} {cI cJ cZ cMic cSrc cSt cAI cAJ : ClassId} {ad : Nat → Nat} {T : AT} {y : MethodName} {bytes : ByteArray} {maxL nL n index fr lo : Nat} {ret : Option FieldType} {ws : List Cond} {As : List Value} {C : String} {TT : u_T} {nf ci q : Nat} {fs : List Value} {e1 : Nat} {T1 : AT} (E : cE p c cc0 s m args Ts D own (CT cI cJ cZ cMic cSrc cSt cAI cAJ)) (G : gC cI cJ cZ cMic cSrc cSt cAI cAJ D ad A s.heap H locs T) (hA : ∀ q, s.heap.size ≤ q → A q) (hX : xT A s) (hN : nX s) (hml : c.maxLocals = nL) (hM : kXi l y ws fr lo cI cJ cZ cMic cSrc cSt cAI cAJ D ad T (.ref (ad q) :: As) e1 T1) (cw : CallW R s args own C index y bytes maxL ret ws { frames := fr, cells := 1, slots := 6, locals := lo } 1 6 n) (hq : q < T.1) (hSq : cc cI cJ cZ cMic cSrc cSt cAI cAJ ad T q = .inr (ci, fs)) (hc : vwCl[ci]? = some (C, TT, nf)) (hn : As.length = n) (hsz : ls.size = nL) {st : List Value} (hst : st = As.reverse ++ .ref (ad q) :: rest) (hW : 2 * (F0 m pc ls st).monitorRoom + (rest.map fun v => v.category).sum ≤ 8) (hdg : decode cc0 pc = .ok (.invokevirtual index, 3)) (hf : cells + 1 ≤ R.cells ∧ slots + 6 ≤ R.slots) (kx : ∀ (E9 : String) (ce : Cell) (q9 : Addr) (T9 : AT) (H1 : Heap) (locs1 : List Loc), E9 = exn e1 ∧ T9 = T1 → gC cI cJ cZ cMic cSrc cSt cAI cAJ D ad A s.heap H1 locs1 T9 → H1[q9]? = some ce → ce.vm = .none → s.vm.findClass E9 = some ce.cls → vx_W p l e R s m args below meth c H1 locs1 (cells + 1) (slots + 6) Q (F0 m pc ls rest) q9) : W p l e R s m args below meth c H locs cells slots Q (F0 m pc ls st) := by
  obtain ⟨hx, hb, hts, hown, hK⟩ := E
  obtain ⟨hP, hD, hS⟩ := G
  have hFc := va_free (wc := cW ad T.1 (cc cI cJ cZ cMic cSrc cSt cAI cAJ ad T)) hD hS hA (List.range T.1) (cW_all ad T.1 (cc cI cJ cZ cMic cSrc cSt cAI cAJ ad T))
  refine vx_calli (vx_runV (As := As) (rest := rest) ⟨hx, hb, hml, hown, hts⟩ (hM H.size) cw ⟨fun a U g mk q => by obtain ⟨q0, q1, qP, qK, qD, qX, qN⟩ := q; exact ⟨q0, q1, qP, va_K.moved (u := U) (U := U.calling g mk a) (Vm.Alike.refl U.vm) qK, qD, qX.blind, nX.moved U (U.calling g mk a) (State.WarmedH.refl U) qN⟩, va_recv hK hP (ci := ci) (q0 := q) hc (cW_e hq hSq), fun U hU hW => ⟨rfl, by rw [hU], by rw [hU]; exact hP, va_K.moved hW.alike hK, hD.weaken (fun _ _ _ _ => trivial), hX.go hW hU hS hFc, nX.moved s U hW hN⟩⟩ rfl hn hsz hst hW hdg hf) hS (fun q _ h => hFc q h) hFc (fun q _ h => hFc q h) (fun E9 ce q9 u t H1 locs1 ht hvm _ hB hz1 hk1 hS hce hcv hcl => ?_) (fun r u t H1 locs1 ht hvm hw hB hz1 hk1 hS => hw.elim)
  obtain ⟨hpx, hP1, hK1, hD1⟩ := hB
  rw [ht] at hP1
  obtain ⟨hP2, hD2⟩ := va_join (wr := []) (w1 := cW ad u.1 (cc cI cJ cZ cMic cSrc cSt cAI cAJ ad u)) hP hD (List.range T.1) [] (cW_all ad T.1 (cc cI cJ cZ cMic cSrc cSt cAI cAJ ad T)) rfl rfl (fun i hi => absurd hi List.not_mem_nil) hk1 hFc hP1 hD1
  exact kx E9 ce q9 u H1 locs1 hpx ⟨hP2, hD2, hS⟩ hce hcv hcl
abbrev kXv (l : Launch) (y : MethodName) (ws : List Cond) (fr lo : Nat) (cI cJ cZ cMic cSrc cSt cAI cAJ : ClassId) (D : va_G) (ad : Nat → Nat) (T : AT) (As : List Value) (e1 : Nat) (T1 : AT) : Prop := ∀ sz : Nat, vx_Met l y ws { frames := fr, cells := 1, slots := 6, locals := lo } (va_Pc As (kB cI cJ cZ cMic cSrc cSt cAI cAJ D ad T sz)) (va_Qv (fun (_ : AT) => False) (kAt cI cJ cZ cMic cSrc cSt cAI cAJ D ad (va_A (cW ad T.1 (cc cI cJ cZ cMic cSrc cSt cAI cAJ ad T)) sz)) (va_A (cW ad T.1 (cc cI cJ cZ cMic cSrc cSt cAI cAJ ad T)) sz)) (vx_X (fun _ => True) (fun E u t => (E = exn e1 ∧ u = T1) ∧ kAt cI cJ cZ cMic cSrc cSt cAI cAJ D ad (va_A (cW ad T.1 (cc cI cJ cZ cMic cSrc cSt cAI cAJ ad T)) sz) u t) (va_A (cW ad T.1 (cc cI cJ cZ cMic cSrc cSt cAI cAJ ad T)) sz)) 1 6 (va_A (cW ad T.1 (cc cI cJ cZ cMic cSrc cSt cAI cAJ ad T)) sz)
theorem q_xvv {p : Program} {l : Launch} {e : Env} {R : Room} {s : State} {m : MethodId} {args : Array Value} {below : List Frame} {meth : Method} {c : Code} {H : Heap} {locs : List Loc} {cells slots : Nat} {Q : State → Prop} {cc0 : ByteArray} {pc : Nat} {ls : Array Slot} {rest : List Value} {D : va_G} {A : Nat → Prop} {Ts : List Cond} {own : String} {cI cJ cZ cMic cSrc cSt cAI cAJ : ClassId} {ad : Nat → Nat} {T : AT} {y : MethodName} {bytes : ByteArray} {maxL nL n index fr lo : Nat} {ret : Option FieldType} {ws : List Cond} {As : List Value} {C : String} {TT : u_T} {nf ci q : Nat} {fs : List Value} {e1 : Nat} {T1 : AT} (E : cE p c cc0 s m args Ts D own (CT cI cJ cZ cMic cSrc cSt cAI cAJ)) (G : gC cI cJ cZ cMic cSrc cSt cAI cAJ D ad A s.heap H locs T) (hA : ∀ q, s.heap.size ≤ q → A q) (hX : xT A s) (hN : nX s) (hml : c.maxLocals = nL) (hM : kXv l y ws fr lo cI cJ cZ cMic cSrc cSt cAI cAJ D ad T (.ref (ad q) :: As) e1 T1) (cw : CallW R s args own C index y bytes maxL ret ws { frames := fr, cells := 1, slots := 6, locals := lo } 1 6 n) (hq : q < T.1) (hSq : cc cI cJ cZ cMic cSrc cSt cAI cAJ ad T q = .inr (ci, fs)) (hc : vwCl[ci]? = some (C, TT, nf)) (hn : As.length = n) (hsz : ls.size = nL) {st : List Value} (hst : st = As.reverse ++ .ref (ad q) :: rest) (hW : 2 * (F0 m pc ls st).monitorRoom + (rest.map fun v => v.category).sum ≤ 8) (hdg : decode cc0 pc = .ok (.invokevirtual index, 3)) (hf : cells + 1 ≤ R.cells ∧ slots + 6 ≤ R.slots) (kx : ∀ (E9 : String) (ce : Cell) (q9 : Addr) (T9 : AT) (H1 : Heap) (locs1 : List Loc), E9 = exn e1 ∧ T9 = T1 → gC cI cJ cZ cMic cSrc cSt cAI cAJ D ad A s.heap H1 locs1 T9 → H1[q9]? = some ce → ce.vm = .none → s.vm.findClass E9 = some ce.cls → vx_W p l e R s m args below meth c H1 locs1 (cells + 1) (slots + 6) Q (F0 m pc ls rest) q9) : W p l e R s m args below meth c H locs cells slots Q (F0 m pc ls st) := by
  obtain ⟨hx, hb, hts, hown, hK⟩ := E
  obtain ⟨hP, hD, hS⟩ := G
  have hFc := va_free (wc := cW ad T.1 (cc cI cJ cZ cMic cSrc cSt cAI cAJ ad T)) hD hS hA (List.range T.1) (cW_all ad T.1 (cc cI cJ cZ cMic cSrc cSt cAI cAJ ad T))
  refine vx_callv (vx_runV (As := As) (rest := rest) ⟨hx, hb, hml, hown, hts⟩ (hM H.size) cw ⟨fun a U g mk q => by obtain ⟨q0, q1, qP, qK, qD, qX, qN⟩ := q; exact ⟨q0, q1, qP, va_K.moved (u := U) (U := U.calling g mk a) (Vm.Alike.refl U.vm) qK, qD, qX.blind, nX.moved U (U.calling g mk a) (State.WarmedH.refl U) qN⟩, va_recv hK hP (ci := ci) (q0 := q) hc (cW_e hq hSq), fun U hU hW => ⟨rfl, by rw [hU], by rw [hU]; exact hP, va_K.moved hW.alike hK, hD.weaken (fun _ _ _ _ => trivial), hX.go hW hU hS hFc, nX.moved s U hW hN⟩⟩ rfl hn hsz hst hW hdg hf) hS (fun q _ h => hFc q h) hFc (fun q _ h => hFc q h) (fun E9 ce q9 u t H1 locs1 ht hvm _ hB hz1 hk1 hS hce hcv hcl => ?_) (fun u t H1 locs1 ht hvm hw hB hz1 hk1 hS => hw.elim)
  obtain ⟨hpx, hP1, hK1, hD1⟩ := hB
  rw [ht] at hP1
  obtain ⟨hP2, hD2⟩ := va_join (wr := []) (w1 := cW ad u.1 (cc cI cJ cZ cMic cSrc cSt cAI cAJ ad u)) hP hD (List.range T.1) [] (cW_all ad T.1 (cc cI cJ cZ cMic cSrc cSt cAI cAJ ad T)) rfl rfl (fun i hi => absurd hi List.not_mem_nil) hk1 hFc hP1 hD1
  exact kx E9 ce q9 u H1 locs1 hpx ⟨hP2, hD2, hS⟩ hce hcv hcl
theorem q_xsv {p : Program} {l : Launch} {e : Env} {R : Room} {s : State} {m : MethodId} {args : Array Value} {below : List Frame} {meth : Method} {c : Code} {H : Heap} {locs : List Loc} {cells slots : Nat} {Q : State → Prop} {cc0 : ByteArray} {pc : Nat} {ls : Array Slot} {rest : List Value} {D : va_G} {A : Nat → Prop} {Ts : List Cond} {own : String} {cI cJ cZ cMic cSrc cSt cAI cAJ : ClassId} {ad : Nat → Nat} {T : AT} {y : MethodName} {bytes : ByteArray} {maxL nL n index fr lo : Nat} {ret : Option FieldType} {ws : List Cond} {As : List Value} {e1 : Nat} {T1 : AT} (E : cE p c cc0 s m args Ts D own (CT cI cJ cZ cMic cSrc cSt cAI cAJ)) (G : gC cI cJ cZ cMic cSrc cSt cAI cAJ D ad A s.heap H locs T) (hA : ∀ q, s.heap.size ≤ q → A q) (hX : xT A s) (hN : nX s) (hml : c.maxLocals = nL) (hM : kXv l y ws fr lo cI cJ cZ cMic cSrc cSt cAI cAJ D ad T (As) e1 T1) (cw : CallB R s args own index y bytes maxL ret ws { frames := fr, cells := 1, slots := 6, locals := lo } 1 6 n ∧ (Cond.static y).before args s = true) (hn : As.length = n) (hsz : ls.size = nL) {st : List Value} (hst : st = As.reverse ++ rest) (hW : 2 * (F0 m pc ls st).monitorRoom + (rest.map fun v => v.category).sum ≤ 8) (hdg : decode cc0 pc = .ok (.invokestatic index, 3)) (hf : cells + 1 ≤ R.cells ∧ slots + 6 ≤ R.slots) (kx : ∀ (E9 : String) (ce : Cell) (q9 : Addr) (T9 : AT) (H1 : Heap) (locs1 : List Loc), E9 = exn e1 ∧ T9 = T1 → gC cI cJ cZ cMic cSrc cSt cAI cAJ D ad A s.heap H1 locs1 T9 → H1[q9]? = some ce → ce.vm = .none → s.vm.findClass E9 = some ce.cls → vx_W p l e R s m args below meth c H1 locs1 (cells + 1) (slots + 6) Q (F0 m pc ls rest) q9) : W p l e R s m args below meth c H locs cells slots Q (F0 m pc ls st) := by
  obtain ⟨hx, hb, hts, hown, hK⟩ := E
  obtain ⟨hP, hD, hS⟩ := G
  have hFc := va_free (wc := cW ad T.1 (cc cI cJ cZ cMic cSrc cSt cAI cAJ ad T)) hD hS hA (List.range T.1) (cW_all ad T.1 (cc cI cJ cZ cMic cSrc cSt cAI cAJ ad T))
  refine vx_callv (vx_runS (As := As) (rest := rest) ⟨hx, hb, hml, hown, hts⟩ (hM H.size) cw ⟨fun a U g mk q => by obtain ⟨q0, q1, qP, qK, qD, qX, qN⟩ := q; exact ⟨q0, q1, qP, va_K.moved (u := U) (U := U.calling g mk a) (Vm.Alike.refl U.vm) qK, qD, qX.blind, nX.moved U (U.calling g mk a) (State.WarmedH.refl U) qN⟩, fun U hU hW => ⟨rfl, by rw [hU], by rw [hU]; exact hP, va_K.moved hW.alike hK, hD.weaken (fun _ _ _ _ => trivial), hX.go hW hU hS hFc, nX.moved s U hW hN⟩⟩ rfl hn hsz hst hW hdg hf) hS (fun q _ h => hFc q h) hFc (fun q _ h => hFc q h) (fun E9 ce q9 u t H1 locs1 ht hvm _ hB hz1 hk1 hS hce hcv hcl => ?_) (fun u t H1 locs1 ht hvm hw hB hz1 hk1 hS => hw.elim)
  obtain ⟨hpx, hP1, hK1, hD1⟩ := hB
  rw [ht] at hP1
  obtain ⟨hP2, hD2⟩ := va_join (wr := []) (w1 := cW ad u.1 (cc cI cJ cZ cMic cSrc cSt cAI cAJ ad u)) hP hD (List.range T.1) [] (cW_all ad T.1 (cc cI cJ cZ cMic cSrc cSt cAI cAJ ad T)) rfl rfl (fun i hi => absurd hi List.not_mem_nil) hk1 hFc hP1 hD1
  exact kx E9 ce q9 u H1 locs1 hpx ⟨hP2, hD2, hS⟩ hce hcv hcl
abbrev kAi (l : Launch) (y : MethodName) (ws : List Cond) (fr lo : Nat) (cI cJ cZ cMic cSrc cSt cAI cAJ : ClassId) (D : va_G) (ad : Nat → Nat) (T : AT) (As : List Value) (r1 : Int32) (T1 : AT) : Prop := ∀ sz : Nat, Met l y ws { frames := fr, cells := T1.1 - T.1, slots := sg T1 - sg T, locals := lo } (va_Pc As (kB cI cJ cZ cMic cSrc cSt cAI cAJ D ad T sz)) (va_Qi (fun r (u : AT × (Nat → Nat)) => r = r1 ∧ u.1 = T1 ∧ ∀ n, n < T.1 → u.2 n = ad n) (fun (u : AT × (Nat → Nat)) t => kAt cI cJ cZ cMic cSrc cSt cAI cAJ D u.2 (va_A (cW ad T.1 (cc cI cJ cZ cMic cSrc cSt cAI cAJ ad T)) sz) u.1 t) (va_A (cW ad T.1 (cc cI cJ cZ cMic cSrc cSt cAI cAJ ad T)) sz)) (T1.1 - T.1) (sg T1 - sg T) (va_A (cW ad T.1 (cc cI cJ cZ cMic cSrc cSt cAI cAJ ad T)) sz)
theorem q_avi {p : Program} {l : Launch} {e : Env} {R : Room} {s : State} {m : MethodId} {args : Array Value} {below : List Frame} {meth : Method} {c : Code} {H : Heap} {locs : List Loc} {cells slots : Nat} {Q : State → Prop} {cc0 : ByteArray} {pc : Nat} {ls : Array Slot} {rest : List Value} {D : va_G} {A : Nat → Prop} {Ts : List Cond} {own : String} {cI cJ cZ cMic cSrc cSt cAI cAJ : ClassId} {ad : Nat → Nat} {T : AT} {y : MethodName} {bytes : ByteArray} {maxL nL n index fr lo : Nat} {ret : Option FieldType} {ws : List Cond} {As : List Value} {C : String} {TT : u_T} {nf ci q : Nat} {fs : List Value} {r1 : Int32} {T1 : AT} (E : cE p c cc0 s m args Ts D own (CT cI cJ cZ cMic cSrc cSt cAI cAJ)) (G : gC cI cJ cZ cMic cSrc cSt cAI cAJ D ad A s.heap H locs T) (hA : ∀ q, s.heap.size ≤ q → A q) (hX : xT A s) (hN : nX s) (hml : c.maxLocals = nL) (hM : kAi l y ws fr lo cI cJ cZ cMic cSrc cSt cAI cAJ D ad T (.ref (ad q) :: As) r1 T1) (cw : CallW R s args own C index y bytes maxL ret ws { frames := fr, cells := T1.1 - T.1, slots := sg T1 - sg T, locals := lo } (T1.1 - T.1) (sg T1 - sg T) n) (hq : q < T.1) (hSq : cc cI cJ cZ cMic cSrc cSt cAI cAJ ad T q = .inr (ci, fs)) (hc : vwCl[ci]? = some (C, TT, nf)) (hn : As.length = n) (hsz : ls.size = nL) {st : List Value} (hst : st = As.reverse ++ .ref (ad q) :: rest) (hW : 2 * (F0 m pc ls st).monitorRoom + (rest.map fun v => v.category).sum ≤ 8) (hdg : decode cc0 pc = .ok (.invokevirtual index, 3)) (hf : cells + (T1.1 - T.1) ≤ R.cells ∧ slots + (sg T1 - sg T) ≤ R.slots) (kk : ∀ (ad2 : Nat → Nat) (H1 : Heap) (locs1 : List Loc), (∀ n, n < T.1 → ad2 n = ad n) → gC cI cJ cZ cMic cSrc cSt cAI cAJ D ad2 A s.heap H1 locs1 T1 → W p l e R s m args below meth c H1 locs1 (cells + (T1.1 - T.1)) (slots + (sg T1 - sg T)) Q (F0 m (pc + 3) ls (.int r1 :: rest))) : W p l e R s m args below meth c H locs cells slots Q (F0 m pc ls st) := by
  obtain ⟨hx, hb, hts, hown, hK⟩ := E
  obtain ⟨hP, hD, hS⟩ := G
  have hFc := va_free (wc := cW ad T.1 (cc cI cJ cZ cMic cSrc cSt cAI cAJ ad T)) hD hS hA (List.range T.1) (cW_all ad T.1 (cc cI cJ cZ cMic cSrc cSt cAI cAJ ad T))
  refine va_calli (va_runV (As := As) (rest := rest) ⟨hx, hb, hml, hown, hts⟩ (hM H.size) cw ⟨fun a U g mk q => by obtain ⟨q0, q1, qP, qK, qD, qX, qN⟩ := q; exact ⟨q0, q1, qP, va_K.moved (u := U) (U := U.calling g mk a) (Vm.Alike.refl U.vm) qK, qD, qX.blind, nX.moved U (U.calling g mk a) (State.WarmedH.refl U) qN⟩, va_recv hK hP (ci := ci) (q0 := q) hc (cW_e hq hSq), fun U hU hW => ⟨rfl, by rw [hU], by rw [hU]; exact hP, va_K.moved hW.alike hK, hD.weaken (fun _ _ _ _ => trivial), hX.go hW hU hS hFc, nX.moved s U hW hN⟩⟩ rfl hn hsz hst hW hdg hf) hS (fun q _ h => hFc q h) hFc (fun r u t H1 locs1 ht hvm hw hB hz1 hk1 hS => ?_)
  obtain ⟨u1, u2⟩ := u
  obtain ⟨hw1, hw2, hw3⟩ := hw
  have hw2 : u1 = T1 := hw2
  obtain ⟨hP1, hK1, hD1⟩ := hB
  rw [ht] at hP1
  obtain ⟨hP2, hD2⟩ := va_join (wr := []) (w1 := cW u2 u1.1 (cc cI cJ cZ cMic cSrc cSt cAI cAJ u2 u1)) hP hD (List.range T.1) [] (cW_all ad T.1 (cc cI cJ cZ cMic cSrc cSt cAI cAJ ad T)) rfl rfl (fun i hi => absurd hi List.not_mem_nil) hk1 hFc hP1 hD1
  rw [hw1]
  rw [hw2] at hP2 hD2
  exact kk u2 H1 locs1 hw3 ⟨hP2, hD2, hS⟩
abbrev kAXi (l : Launch) (y : MethodName) (ws : List Cond) (fr lo : Nat) (cI cJ cZ cMic cSrc cSt cAI cAJ : ClassId) (D : va_G) (ad : Nat → Nat) (T : AT) (As : List Value) (e1 : Nat) (T1 : AT) : Prop := ∀ sz : Nat, vx_Met l y ws { frames := fr, cells := T1.1 - T.1 + 1, slots := sg T1 - sg T + 6, locals := lo } (va_Pc As (kB cI cJ cZ cMic cSrc cSt cAI cAJ D ad T sz)) (va_Qi (fun (_ : Int32) (_ : AT × (Nat → Nat)) => False) (fun (u : AT × (Nat → Nat)) t => kAt cI cJ cZ cMic cSrc cSt cAI cAJ D u.2 (va_A (cW ad T.1 (cc cI cJ cZ cMic cSrc cSt cAI cAJ ad T)) sz) u.1 t) (va_A (cW ad T.1 (cc cI cJ cZ cMic cSrc cSt cAI cAJ ad T)) sz)) (vx_X (fun _ => True) (fun E (u : AT × (Nat → Nat)) t => (E = exn e1 ∧ u.1 = T1 ∧ ∀ n, n < T.1 → u.2 n = ad n) ∧ kAt cI cJ cZ cMic cSrc cSt cAI cAJ D u.2 (va_A (cW ad T.1 (cc cI cJ cZ cMic cSrc cSt cAI cAJ ad T)) sz) u.1 t) (va_A (cW ad T.1 (cc cI cJ cZ cMic cSrc cSt cAI cAJ ad T)) sz)) (T1.1 - T.1 + 1) (sg T1 - sg T + 6) (va_A (cW ad T.1 (cc cI cJ cZ cMic cSrc cSt cAI cAJ ad T)) sz)
abbrev kAl (l : Launch) (y : MethodName) (ws : List Cond) (fr lo : Nat) (cI cJ cZ cMic cSrc cSt cAI cAJ : ClassId) (D : va_G) (ad : Nat → Nat) (T : AT) (As : List Value) (r1 : Int64) (T1 : AT) : Prop := ∀ sz : Nat, Met l y ws { frames := fr, cells := T1.1 - T.1, slots := sg T1 - sg T, locals := lo } (va_Pc As (kB cI cJ cZ cMic cSrc cSt cAI cAJ D ad T sz)) (va_Ql (fun r (u : AT × (Nat → Nat)) => r = r1 ∧ u.1 = T1 ∧ ∀ n, n < T.1 → u.2 n = ad n) (fun (u : AT × (Nat → Nat)) t => kAt cI cJ cZ cMic cSrc cSt cAI cAJ D u.2 (va_A (cW ad T.1 (cc cI cJ cZ cMic cSrc cSt cAI cAJ ad T)) sz) u.1 t) (va_A (cW ad T.1 (cc cI cJ cZ cMic cSrc cSt cAI cAJ ad T)) sz)) (T1.1 - T.1) (sg T1 - sg T) (va_A (cW ad T.1 (cc cI cJ cZ cMic cSrc cSt cAI cAJ ad T)) sz)
abbrev kAXl (l : Launch) (y : MethodName) (ws : List Cond) (fr lo : Nat) (cI cJ cZ cMic cSrc cSt cAI cAJ : ClassId) (D : va_G) (ad : Nat → Nat) (T : AT) (As : List Value) (e1 : Nat) (T1 : AT) : Prop := ∀ sz : Nat, vx_Met l y ws { frames := fr, cells := T1.1 - T.1 + 1, slots := sg T1 - sg T + 6, locals := lo } (va_Pc As (kB cI cJ cZ cMic cSrc cSt cAI cAJ D ad T sz)) (va_Ql (fun (_ : Int64) (_ : AT × (Nat → Nat)) => False) (fun (u : AT × (Nat → Nat)) t => kAt cI cJ cZ cMic cSrc cSt cAI cAJ D u.2 (va_A (cW ad T.1 (cc cI cJ cZ cMic cSrc cSt cAI cAJ ad T)) sz) u.1 t) (va_A (cW ad T.1 (cc cI cJ cZ cMic cSrc cSt cAI cAJ ad T)) sz)) (vx_X (fun _ => True) (fun E (u : AT × (Nat → Nat)) t => (E = exn e1 ∧ u.1 = T1 ∧ ∀ n, n < T.1 → u.2 n = ad n) ∧ kAt cI cJ cZ cMic cSrc cSt cAI cAJ D u.2 (va_A (cW ad T.1 (cc cI cJ cZ cMic cSrc cSt cAI cAJ ad T)) sz) u.1 t) (va_A (cW ad T.1 (cc cI cJ cZ cMic cSrc cSt cAI cAJ ad T)) sz)) (T1.1 - T.1 + 1) (sg T1 - sg T + 6) (va_A (cW ad T.1 (cc cI cJ cZ cMic cSrc cSt cAI cAJ ad T)) sz)
abbrev kAf (l : Launch) (y : MethodName) (ws : List Cond) (fr lo : Nat) (cI cJ cZ cMic cSrc cSt cAI cAJ : ClassId) (D : va_G) (ad : Nat → Nat) (T : AT) (As : List Value) (r1 : UInt32) (T1 : AT) : Prop := ∀ sz : Nat, Met l y ws { frames := fr, cells := T1.1 - T.1, slots := sg T1 - sg T, locals := lo } (va_Pc As (kB cI cJ cZ cMic cSrc cSt cAI cAJ D ad T sz)) (va_Qf (fun r (u : AT × (Nat → Nat)) => r = r1 ∧ u.1 = T1 ∧ ∀ n, n < T.1 → u.2 n = ad n) (fun (u : AT × (Nat → Nat)) t => kAt cI cJ cZ cMic cSrc cSt cAI cAJ D u.2 (va_A (cW ad T.1 (cc cI cJ cZ cMic cSrc cSt cAI cAJ ad T)) sz) u.1 t) (va_A (cW ad T.1 (cc cI cJ cZ cMic cSrc cSt cAI cAJ ad T)) sz)) (T1.1 - T.1) (sg T1 - sg T) (va_A (cW ad T.1 (cc cI cJ cZ cMic cSrc cSt cAI cAJ ad T)) sz)
abbrev kAXf (l : Launch) (y : MethodName) (ws : List Cond) (fr lo : Nat) (cI cJ cZ cMic cSrc cSt cAI cAJ : ClassId) (D : va_G) (ad : Nat → Nat) (T : AT) (As : List Value) (e1 : Nat) (T1 : AT) : Prop := ∀ sz : Nat, vx_Met l y ws { frames := fr, cells := T1.1 - T.1 + 1, slots := sg T1 - sg T + 6, locals := lo } (va_Pc As (kB cI cJ cZ cMic cSrc cSt cAI cAJ D ad T sz)) (va_Qf (fun (_ : UInt32) (_ : AT × (Nat → Nat)) => False) (fun (u : AT × (Nat → Nat)) t => kAt cI cJ cZ cMic cSrc cSt cAI cAJ D u.2 (va_A (cW ad T.1 (cc cI cJ cZ cMic cSrc cSt cAI cAJ ad T)) sz) u.1 t) (va_A (cW ad T.1 (cc cI cJ cZ cMic cSrc cSt cAI cAJ ad T)) sz)) (vx_X (fun _ => True) (fun E (u : AT × (Nat → Nat)) t => (E = exn e1 ∧ u.1 = T1 ∧ ∀ n, n < T.1 → u.2 n = ad n) ∧ kAt cI cJ cZ cMic cSrc cSt cAI cAJ D u.2 (va_A (cW ad T.1 (cc cI cJ cZ cMic cSrc cSt cAI cAJ ad T)) sz) u.1 t) (va_A (cW ad T.1 (cc cI cJ cZ cMic cSrc cSt cAI cAJ ad T)) sz)) (T1.1 - T.1 + 1) (sg T1 - sg T + 6) (va_A (cW ad T.1 (cc cI cJ cZ cMic cSrc cSt cAI cAJ ad T)) sz)
abbrev kAv (l : Launch) (y : MethodName) (ws : List Cond) (fr lo : Nat) (cI cJ cZ cMic cSrc cSt cAI cAJ : ClassId) (D : va_G) (ad : Nat → Nat) (T : AT) (As : List Value) (T1 : AT) : Prop := ∀ sz : Nat, Met l y ws { frames := fr, cells := T1.1 - T.1, slots := sg T1 - sg T, locals := lo } (va_Pc As (kB cI cJ cZ cMic cSrc cSt cAI cAJ D ad T sz)) (va_Qv (fun (u : AT × (Nat → Nat)) => u.1 = T1 ∧ ∀ n, n < T.1 → u.2 n = ad n) (fun (u : AT × (Nat → Nat)) t => kAt cI cJ cZ cMic cSrc cSt cAI cAJ D u.2 (va_A (cW ad T.1 (cc cI cJ cZ cMic cSrc cSt cAI cAJ ad T)) sz) u.1 t) (va_A (cW ad T.1 (cc cI cJ cZ cMic cSrc cSt cAI cAJ ad T)) sz)) (T1.1 - T.1) (sg T1 - sg T) (va_A (cW ad T.1 (cc cI cJ cZ cMic cSrc cSt cAI cAJ ad T)) sz)
theorem q_avv {p : Program} {l : Launch} {e : Env} {R : Room} {s : State} {m : MethodId} {args : Array Value} {below : List Frame} {meth : Method} {c : Code} {H : Heap} {locs : List Loc} {cells slots : Nat} {Q : State → Prop} {cc0 : ByteArray} {pc : Nat} {ls : Array Slot} {rest : List Value} {D : va_G} {A : Nat → Prop} {Ts : List Cond} {own : String} {cI cJ cZ cMic cSrc cSt cAI cAJ : ClassId} {ad : Nat → Nat} {T : AT} {y : MethodName} {bytes : ByteArray} {maxL nL n index fr lo : Nat} {ret : Option FieldType} {ws : List Cond} {As : List Value} {C : String} {TT : u_T} {nf ci q : Nat} {fs : List Value} {T1 : AT} (E : cE p c cc0 s m args Ts D own (CT cI cJ cZ cMic cSrc cSt cAI cAJ)) (G : gC cI cJ cZ cMic cSrc cSt cAI cAJ D ad A s.heap H locs T) (hA : ∀ q, s.heap.size ≤ q → A q) (hX : xT A s) (hN : nX s) (hml : c.maxLocals = nL) (hM : kAv l y ws fr lo cI cJ cZ cMic cSrc cSt cAI cAJ D ad T (.ref (ad q) :: As) T1) (cw : CallW R s args own C index y bytes maxL ret ws { frames := fr, cells := T1.1 - T.1, slots := sg T1 - sg T, locals := lo } (T1.1 - T.1) (sg T1 - sg T) n) (hq : q < T.1) (hSq : cc cI cJ cZ cMic cSrc cSt cAI cAJ ad T q = .inr (ci, fs)) (hc : vwCl[ci]? = some (C, TT, nf)) (hn : As.length = n) (hsz : ls.size = nL) {st : List Value} (hst : st = As.reverse ++ .ref (ad q) :: rest) (hW : 2 * (F0 m pc ls st).monitorRoom + (rest.map fun v => v.category).sum ≤ 8) (hdg : decode cc0 pc = .ok (.invokevirtual index, 3)) (hf : cells + (T1.1 - T.1) ≤ R.cells ∧ slots + (sg T1 - sg T) ≤ R.slots) (kk : ∀ (ad2 : Nat → Nat) (H1 : Heap) (locs1 : List Loc), (∀ n, n < T.1 → ad2 n = ad n) → gC cI cJ cZ cMic cSrc cSt cAI cAJ D ad2 A s.heap H1 locs1 T1 → W p l e R s m args below meth c H1 locs1 (cells + (T1.1 - T.1)) (slots + (sg T1 - sg T)) Q (F0 m (pc + 3) ls rest)) : W p l e R s m args below meth c H locs cells slots Q (F0 m pc ls st) := by
  obtain ⟨hx, hb, hts, hown, hK⟩ := E
  obtain ⟨hP, hD, hS⟩ := G
  have hFc := va_free (wc := cW ad T.1 (cc cI cJ cZ cMic cSrc cSt cAI cAJ ad T)) hD hS hA (List.range T.1) (cW_all ad T.1 (cc cI cJ cZ cMic cSrc cSt cAI cAJ ad T))
  refine va_callv (va_runV (As := As) (rest := rest) ⟨hx, hb, hml, hown, hts⟩ (hM H.size) cw ⟨fun a U g mk q => by obtain ⟨q0, q1, qP, qK, qD, qX, qN⟩ := q; exact ⟨q0, q1, qP, va_K.moved (u := U) (U := U.calling g mk a) (Vm.Alike.refl U.vm) qK, qD, qX.blind, nX.moved U (U.calling g mk a) (State.WarmedH.refl U) qN⟩, va_recv hK hP (ci := ci) (q0 := q) hc (cW_e hq hSq), fun U hU hW => ⟨rfl, by rw [hU], by rw [hU]; exact hP, va_K.moved hW.alike hK, hD.weaken (fun _ _ _ _ => trivial), hX.go hW hU hS hFc, nX.moved s U hW hN⟩⟩ rfl hn hsz hst hW hdg hf) hS (fun q _ h => hFc q h) hFc (fun u t H1 locs1 ht hvm hw hB hz1 hk1 hS => ?_)
  obtain ⟨u1, u2⟩ := u
  obtain ⟨hw2, hw3⟩ := hw
  have hw2 : u1 = T1 := hw2
  obtain ⟨hP1, hK1, hD1⟩ := hB
  rw [ht] at hP1
  obtain ⟨hP2, hD2⟩ := va_join (wr := []) (w1 := cW u2 u1.1 (cc cI cJ cZ cMic cSrc cSt cAI cAJ u2 u1)) hP hD (List.range T.1) [] (cW_all ad T.1 (cc cI cJ cZ cMic cSrc cSt cAI cAJ ad T)) rfl rfl (fun i hi => absurd hi List.not_mem_nil) hk1 hFc hP1 hD1
  rw [hw2] at hP2 hD2
  exact kk u2 H1 locs1 hw3 ⟨hP2, hD2, hS⟩
abbrev kAr (l : Launch) (y : MethodName) (ws : List Cond) (fr lo : Nat) (cI cJ cZ cMic cSrc cSt cAI cAJ : ClassId) (D : va_G) (ad : Nat → Nat) (T : AT) (As : List Value) (r1 : Nat) (T1 : AT) : Prop := ∀ sz : Nat, Met l y ws { frames := fr, cells := T1.1 - T.1, slots := sg T1 - sg T, locals := lo } (va_Pc As (kB cI cJ cZ cMic cSrc cSt cAI cAJ D ad T sz)) (va_Qr (fun (u : AT × (Nat → Nat)) => u.1 = T1 ∧ ∀ n, n < T.1 → u.2 n = ad n) (fun (u : AT × (Nat → Nat)) a t => a = u.2 r1 ∧ kAt cI cJ cZ cMic cSrc cSt cAI cAJ D u.2 (va_A (cW ad T.1 (cc cI cJ cZ cMic cSrc cSt cAI cAJ ad T)) sz) u.1 t) (va_A (cW ad T.1 (cc cI cJ cZ cMic cSrc cSt cAI cAJ ad T)) sz)) (T1.1 - T.1) (sg T1 - sg T) (va_A (cW ad T.1 (cc cI cJ cZ cMic cSrc cSt cAI cAJ ad T)) sz)
theorem q_avr {p : Program} {l : Launch} {e : Env} {R : Room} {s : State} {m : MethodId} {args : Array Value} {below : List Frame} {meth : Method} {c : Code} {H : Heap} {locs : List Loc} {cells slots : Nat} {Q : State → Prop} {cc0 : ByteArray} {pc : Nat} {ls : Array Slot} {rest : List Value} {D : va_G} {A : Nat → Prop} {Ts : List Cond} {own : String} {cI cJ cZ cMic cSrc cSt cAI cAJ : ClassId} {ad : Nat → Nat} {T : AT} {y : MethodName} {bytes : ByteArray} {maxL nL n index fr lo : Nat} {ret : Option FieldType} {ws : List Cond} {As : List Value} {C : String} {TT : u_T} {nf ci q : Nat} {fs : List Value} {r1 : Nat} {T1 : AT} (E : cE p c cc0 s m args Ts D own (CT cI cJ cZ cMic cSrc cSt cAI cAJ)) (G : gC cI cJ cZ cMic cSrc cSt cAI cAJ D ad A s.heap H locs T) (hA : ∀ q, s.heap.size ≤ q → A q) (hX : xT A s) (hN : nX s) (hml : c.maxLocals = nL) (hM : kAr l y ws fr lo cI cJ cZ cMic cSrc cSt cAI cAJ D ad T (.ref (ad q) :: As) r1 T1) (cw : CallW R s args own C index y bytes maxL ret ws { frames := fr, cells := T1.1 - T.1, slots := sg T1 - sg T, locals := lo } (T1.1 - T.1) (sg T1 - sg T) n) (hq : q < T.1) (hSq : cc cI cJ cZ cMic cSrc cSt cAI cAJ ad T q = .inr (ci, fs)) (hc : vwCl[ci]? = some (C, TT, nf)) (hn : As.length = n) (hsz : ls.size = nL) {st : List Value} (hst : st = As.reverse ++ .ref (ad q) :: rest) (hW : 2 * (F0 m pc ls st).monitorRoom + (rest.map fun v => v.category).sum ≤ 8) (hdg : decode cc0 pc = .ok (.invokevirtual index, 3)) (hf : cells + (T1.1 - T.1) ≤ R.cells ∧ slots + (sg T1 - sg T) ≤ R.slots) (kk : ∀ (ad2 : Nat → Nat) (H1 : Heap) (locs1 : List Loc), (∀ n, n < T.1 → ad2 n = ad n) → gC cI cJ cZ cMic cSrc cSt cAI cAJ D ad2 A s.heap H1 locs1 T1 → W p l e R s m args below meth c H1 locs1 (cells + (T1.1 - T.1)) (slots + (sg T1 - sg T)) Q (F0 m (pc + 3) ls (.ref (ad2 r1) :: rest))) : W p l e R s m args below meth c H locs cells slots Q (F0 m pc ls st) := by
  obtain ⟨hx, hb, hts, hown, hK⟩ := E
  obtain ⟨hP, hD, hS⟩ := G
  have hFc := va_free (wc := cW ad T.1 (cc cI cJ cZ cMic cSrc cSt cAI cAJ ad T)) hD hS hA (List.range T.1) (cW_all ad T.1 (cc cI cJ cZ cMic cSrc cSt cAI cAJ ad T))
  refine va_callr (va_runV (As := As) (rest := rest) ⟨hx, hb, hml, hown, hts⟩ (hM H.size) cw ⟨fun a U g mk q => by obtain ⟨q0, q1, qP, qK, qD, qX, qN⟩ := q; exact ⟨q0, q1, qP, va_K.moved (u := U) (U := U.calling g mk a) (Vm.Alike.refl U.vm) qK, qD, qX.blind, nX.moved U (U.calling g mk a) (State.WarmedH.refl U) qN⟩, va_recv hK hP (ci := ci) (q0 := q) hc (cW_e hq hSq), fun U hU hW => ⟨rfl, by rw [hU], by rw [hU]; exact hP, va_K.moved hW.alike hK, hD.weaken (fun _ _ _ _ => trivial), hX.go hW hU hS hFc, nX.moved s U hW hN⟩⟩ rfl hn hsz hst hW hdg hf) hS (fun q _ h => hFc q h) hFc (fun u ra t H1 locs1 ht hvm hw hB hz1 hk1 hS => ?_)
  obtain ⟨u1, u2⟩ := u
  obtain ⟨hw2, hw3⟩ := hw
  have hw2 : u1 = T1 := hw2
  obtain ⟨ha, hP1, hK1, hD1⟩ := hB
  rw [ht] at hP1
  obtain ⟨hP2, hD2⟩ := va_join (wr := []) (w1 := cW u2 u1.1 (cc cI cJ cZ cMic cSrc cSt cAI cAJ u2 u1)) hP hD (List.range T.1) [] (cW_all ad T.1 (cc cI cJ cZ cMic cSrc cSt cAI cAJ ad T)) rfl rfl (fun i hi => absurd hi List.not_mem_nil) hk1 hFc hP1 hD1
  rw [ha]
  rw [hw2] at hP2 hD2
  exact kk u2 H1 locs1 hw3 ⟨hP2, hD2, hS⟩
theorem q_sti {p : Program} {l : Launch} {e : Env} {R : Room} {s : State} {m : MethodId} {args : Array Value} {below : List Frame} {meth : Method} {c : Code} {H : Heap} {locs : List Loc} {cells slots : Nat} {Q : State → Prop} {cc0 : ByteArray} {pc : Nat} {ls : Array Slot} {rest : List Value} {Ts : List Cond} {own : String} {y : MethodName} {bytes : ByteArray} {maxL nL n index fr lo : Nat} {ret : Option FieldType} {ws : List Cond} {As : List Value} {post : Int32 → Prop} (F : CallFix p m c cc0 nL s args Ts own) (hN : nX s) (hM : Met l y ws { frames := fr, cells := 0, slots := 0, locals := lo } (va_Pc As nX) (vp_Si post) 0 0 (fun _ => False)) (cw : CallB R s args own index y bytes maxL ret ws { frames := fr, cells := 0, slots := 0, locals := lo } 0 0 n ∧ (Cond.static y).before args s = true) (hn : As.length = n) (hsz : ls.size = nL) {st : List Value} (hst : st = As.reverse ++ rest) (hW : 2 * (F0 m pc ls st).monitorRoom + (rest.map fun v => v.category).sum ≤ 8) (hdg : decode cc0 pc = .ok (.invokestatic index, 3)) (hf : cells + 0 ≤ R.cells ∧ slots + 0 ≤ R.slots) (kk : ∀ r : Int32, post r → W p l e R s m args below meth c H locs cells slots Q (F0 m (pc + 3) ls (.int r :: rest))) : W p l e R s m args below meth c H locs cells slots Q (F0 m pc ls st) :=
  vp_callSi (W.runS F hM cw ⟨fun a U g mk q => ⟨q.1, nX.moved U (U.calling g mk a) (State.WarmedH.refl U) q.2⟩, fun U hU hW => ⟨rfl, nX.moved s U hW hN⟩⟩ rfl hn hsz hst hW hdg hf) kk
theorem q_stiN {p : Program} {l : Launch} {e : Env} {R : Room} {s : State} {m : MethodId} {args : Array Value} {below : List Frame} {meth : Method} {c : Code} {H : Heap} {locs : List Loc} {cells slots : Nat} {Q : State → Prop} {cc0 : ByteArray} {pc : Nat} {ls : Array Slot} {rest : List Value} {Ts : List Cond} {own host : String} {y : MethodName} {bytes : ByteArray} {maxL nL n index fr lo : Nat} {ret : Option FieldType} {ws : List Cond} {As : List Value} {post : Int32 → Prop} (F : CallFix p m c cc0 nL s args Ts own) (hN : nX s) (hM : Met l y ws { frames := fr, cells := 0, slots := 0, locals := lo } (va_Pc As nX) (vp_Si post) 0 0 (fun _ => False)) (cw : va_CN R s args own index y host bytes maxL ret ws { frames := fr, cells := 0, slots := 0, locals := lo } 0 0 n ∧ (Cond.static y).before args s = true ∧ True) (hn : As.length = n) (hsz : ls.size = nL) {st : List Value} (hst : st = As.reverse ++ rest) (hW : 2 * (F0 m pc ls st).monitorRoom + (rest.map fun v => v.category).sum ≤ 8) (hdg : decode cc0 pc = .ok (.invokestatic index, 3)) (hf : cells + 0 ≤ R.cells ∧ slots + 0 ≤ R.slots) (kk : ∀ r : Int32, post r → W p l e R s m args below meth c H locs cells slots Q (F0 m (pc + 3) ls (.int r :: rest))) : W p l e R s m args below meth c H locs cells slots Q (F0 m pc ls st) :=
  vp_callSi (va_Run.run (va_runSN F hM cw ⟨fun a U g mk q => ⟨q.1, nX.moved U (U.calling g mk a) (State.WarmedH.refl U) q.2⟩, fun U hU hW => ⟨rfl, nX.moved s U hW hN⟩⟩ rfl hn hsz hst hW hdg hf)) kk
theorem q_stl {p : Program} {l : Launch} {e : Env} {R : Room} {s : State} {m : MethodId} {args : Array Value} {below : List Frame} {meth : Method} {c : Code} {H : Heap} {locs : List Loc} {cells slots : Nat} {Q : State → Prop} {cc0 : ByteArray} {pc : Nat} {ls : Array Slot} {rest : List Value} {Ts : List Cond} {own : String} {y : MethodName} {bytes : ByteArray} {maxL nL n index fr lo : Nat} {ret : Option FieldType} {ws : List Cond} {As : List Value} {post : Int64 → Prop} (F : CallFix p m c cc0 nL s args Ts own) (hN : nX s) (hM : Met l y ws { frames := fr, cells := 0, slots := 0, locals := lo } (va_Pc As nX) (vp_Sl post) 0 0 (fun _ => False)) (cw : CallB R s args own index y bytes maxL ret ws { frames := fr, cells := 0, slots := 0, locals := lo } 0 0 n ∧ (Cond.static y).before args s = true) (hn : As.length = n) (hsz : ls.size = nL) {st : List Value} (hst : st = As.reverse ++ rest) (hW : 2 * (F0 m pc ls st).monitorRoom + (rest.map fun v => v.category).sum ≤ 8) (hdg : decode cc0 pc = .ok (.invokestatic index, 3)) (hf : cells + 0 ≤ R.cells ∧ slots + 0 ≤ R.slots) (kk : ∀ r : Int64, post r → W p l e R s m args below meth c H locs cells slots Q (F0 m (pc + 3) ls (.long r :: rest))) : W p l e R s m args below meth c H locs cells slots Q (F0 m pc ls st) :=
  vp_callSl (W.runS F hM cw ⟨fun a U g mk q => ⟨q.1, nX.moved U (U.calling g mk a) (State.WarmedH.refl U) q.2⟩, fun U hU hW => ⟨rfl, nX.moved s U hW hN⟩⟩ rfl hn hsz hst hW hdg hf) kk
theorem q_stlN {p : Program} {l : Launch} {e : Env} {R : Room} {s : State} {m : MethodId} {args : Array Value} {below : List Frame} {meth : Method} {c : Code} {H : Heap} {locs : List Loc} {cells slots : Nat} {Q : State → Prop} {cc0 : ByteArray} {pc : Nat} {ls : Array Slot} {rest : List Value} {Ts : List Cond} {own host : String} {y : MethodName} {bytes : ByteArray} {maxL nL n index fr lo : Nat} {ret : Option FieldType} {ws : List Cond} {As : List Value} {post : Int64 → Prop} (F : CallFix p m c cc0 nL s args Ts own) (hN : nX s) (hM : Met l y ws { frames := fr, cells := 0, slots := 0, locals := lo } (va_Pc As nX) (vp_Sl post) 0 0 (fun _ => False)) (cw : va_CN R s args own index y host bytes maxL ret ws { frames := fr, cells := 0, slots := 0, locals := lo } 0 0 n ∧ (Cond.static y).before args s = true ∧ True) (hn : As.length = n) (hsz : ls.size = nL) {st : List Value} (hst : st = As.reverse ++ rest) (hW : 2 * (F0 m pc ls st).monitorRoom + (rest.map fun v => v.category).sum ≤ 8) (hdg : decode cc0 pc = .ok (.invokestatic index, 3)) (hf : cells + 0 ≤ R.cells ∧ slots + 0 ≤ R.slots) (kk : ∀ r : Int64, post r → W p l e R s m args below meth c H locs cells slots Q (F0 m (pc + 3) ls (.long r :: rest))) : W p l e R s m args below meth c H locs cells slots Q (F0 m pc ls st) :=
  vp_callSl (va_Run.run (va_runSN F hM cw ⟨fun a U g mk q => ⟨q.1, nX.moved U (U.calling g mk a) (State.WarmedH.refl U) q.2⟩, fun U hU hW => ⟨rfl, nX.moved s U hW hN⟩⟩ rfl hn hsz hst hW hdg hf)) kk
abbrev kCiX (l : Launch) (y : MethodName) (ws : List Cond) (fr lo : Nat) (cI cJ cZ cMic cSrc cSt cAI cAJ : ClassId) (D : va_G) (ad : Nat → Nat) (T : AT) (As : List Value) (X : Nat → State → Prop) (post : Int32 → AT → Prop) : Prop := ∀ sz : Nat, Met l y ws { frames := fr, cells := 0, slots := 0, locals := lo } (va_Pc As (fun U => kB cI cJ cZ cMic cSrc cSt cAI cAJ D ad T sz U ∧ X sz U)) (va_Qi post (kAt cI cJ cZ cMic cSrc cSt cAI cAJ D ad (va_A (cW ad T.1 (cc cI cJ cZ cMic cSrc cSt cAI cAJ ad T)) sz)) (va_A (cW ad T.1 (cc cI cJ cZ cMic cSrc cSt cAI cAJ ad T)) sz)) 0 0 (va_A (cW ad T.1 (cc cI cJ cZ cMic cSrc cSt cAI cAJ ad T)) sz)
abbrev kCvX (l : Launch) (y : MethodName) (ws : List Cond) (fr lo : Nat) (cI cJ cZ cMic cSrc cSt cAI cAJ : ClassId) (D : va_G) (ad : Nat → Nat) (T : AT) (As : List Value) (X : Nat → State → Prop) (post : AT → Prop) : Prop := ∀ sz : Nat, Met l y ws { frames := fr, cells := 0, slots := 0, locals := lo } (va_Pc As (fun U => kB cI cJ cZ cMic cSrc cSt cAI cAJ D ad T sz U ∧ X sz U)) (va_Qv post (kAt cI cJ cZ cMic cSrc cSt cAI cAJ D ad (va_A (cW ad T.1 (cc cI cJ cZ cMic cSrc cSt cAI cAJ ad T)) sz)) (va_A (cW ad T.1 (cc cI cJ cZ cMic cSrc cSt cAI cAJ ad T)) sz)) 0 0 (va_A (cW ad T.1 (cc cI cJ cZ cMic cSrc cSt cAI cAJ ad T)) sz)
abbrev kXiX (l : Launch) (y : MethodName) (ws : List Cond) (fr lo : Nat) (cI cJ cZ cMic cSrc cSt cAI cAJ : ClassId) (D : va_G) (ad : Nat → Nat) (T : AT) (As : List Value) (X : Nat → State → Prop) (e1 : Nat) (T1 : AT) : Prop := ∀ sz : Nat, vx_Met l y ws { frames := fr, cells := 1, slots := 6, locals := lo } (va_Pc As (fun U => kB cI cJ cZ cMic cSrc cSt cAI cAJ D ad T sz U ∧ X sz U)) (va_Qi (fun (_ : Int32) (_ : AT) => False) (kAt cI cJ cZ cMic cSrc cSt cAI cAJ D ad (va_A (cW ad T.1 (cc cI cJ cZ cMic cSrc cSt cAI cAJ ad T)) sz)) (va_A (cW ad T.1 (cc cI cJ cZ cMic cSrc cSt cAI cAJ ad T)) sz)) (vx_X (fun _ => True) (fun E u t => (E = exn e1 ∧ u = T1) ∧ kAt cI cJ cZ cMic cSrc cSt cAI cAJ D ad (va_A (cW ad T.1 (cc cI cJ cZ cMic cSrc cSt cAI cAJ ad T)) sz) u t) (va_A (cW ad T.1 (cc cI cJ cZ cMic cSrc cSt cAI cAJ ad T)) sz)) 1 6 (va_A (cW ad T.1 (cc cI cJ cZ cMic cSrc cSt cAI cAJ ad T)) sz)
abbrev kXvX (l : Launch) (y : MethodName) (ws : List Cond) (fr lo : Nat) (cI cJ cZ cMic cSrc cSt cAI cAJ : ClassId) (D : va_G) (ad : Nat → Nat) (T : AT) (As : List Value) (X : Nat → State → Prop) (e1 : Nat) (T1 : AT) : Prop := ∀ sz : Nat, vx_Met l y ws { frames := fr, cells := 1, slots := 6, locals := lo } (va_Pc As (fun U => kB cI cJ cZ cMic cSrc cSt cAI cAJ D ad T sz U ∧ X sz U)) (va_Qv (fun (_ : AT) => False) (kAt cI cJ cZ cMic cSrc cSt cAI cAJ D ad (va_A (cW ad T.1 (cc cI cJ cZ cMic cSrc cSt cAI cAJ ad T)) sz)) (va_A (cW ad T.1 (cc cI cJ cZ cMic cSrc cSt cAI cAJ ad T)) sz)) (vx_X (fun _ => True) (fun E u t => (E = exn e1 ∧ u = T1) ∧ kAt cI cJ cZ cMic cSrc cSt cAI cAJ D ad (va_A (cW ad T.1 (cc cI cJ cZ cMic cSrc cSt cAI cAJ ad T)) sz) u t) (va_A (cW ad T.1 (cc cI cJ cZ cMic cSrc cSt cAI cAJ ad T)) sz)) 1 6 (va_A (cW ad T.1 (cc cI cJ cZ cMic cSrc cSt cAI cAJ ad T)) sz)
abbrev kAiS (l : Launch) (y : MethodName) (ws : List Cond) (fr lo : Nat) (cI cJ cZ cMic cSrc cSt cAI cAJ : ClassId) (D : va_G) (ad : Nat → Nat) (T : AT) (As : List Value) (X : Nat → State → Prop) (r1 : Int32) (T1 : AT) : Prop := ∀ sz : Nat, Met l y ws { frames := fr, cells := T1.1 - T.1, slots := sg T1 - sg T, locals := lo } (va_Pc As (fun U => kB cI cJ cZ cMic cSrc cSt cAI cAJ D ad T sz U ∧ X sz U)) (va_Qi (fun r (u : AT × (Nat → Nat)) => r = r1 ∧ u.1 = T1 ∧ ∀ n, n < T.1 → u.2 n = ad n) (fun (u : AT × (Nat → Nat)) t => kAt cI cJ cZ cMic cSrc cSt cAI cAJ D u.2 (va_A (cW ad T.1 (cc cI cJ cZ cMic cSrc cSt cAI cAJ ad T)) sz) u.1 t) (va_A (cW ad T.1 (cc cI cJ cZ cMic cSrc cSt cAI cAJ ad T)) sz)) (T1.1 - T.1) (sg T1 - sg T) (va_A (cW ad T.1 (cc cI cJ cZ cMic cSrc cSt cAI cAJ ad T)) sz)
abbrev kAXiS (l : Launch) (y : MethodName) (ws : List Cond) (fr lo : Nat) (cI cJ cZ cMic cSrc cSt cAI cAJ : ClassId) (D : va_G) (ad : Nat → Nat) (T : AT) (As : List Value) (X : Nat → State → Prop) (e1 : Nat) (T1 : AT) : Prop := ∀ sz : Nat, vx_Met l y ws { frames := fr, cells := T1.1 - T.1 + 1, slots := sg T1 - sg T + 6, locals := lo } (va_Pc As (fun U => kB cI cJ cZ cMic cSrc cSt cAI cAJ D ad T sz U ∧ X sz U)) (va_Qi (fun (_ : Int32) (_ : AT × (Nat → Nat)) => False) (fun (u : AT × (Nat → Nat)) t => kAt cI cJ cZ cMic cSrc cSt cAI cAJ D u.2 (va_A (cW ad T.1 (cc cI cJ cZ cMic cSrc cSt cAI cAJ ad T)) sz) u.1 t) (va_A (cW ad T.1 (cc cI cJ cZ cMic cSrc cSt cAI cAJ ad T)) sz)) (vx_X (fun _ => True) (fun E (u : AT × (Nat → Nat)) t => (E = exn e1 ∧ u.1 = T1 ∧ ∀ n, n < T.1 → u.2 n = ad n) ∧ kAt cI cJ cZ cMic cSrc cSt cAI cAJ D u.2 (va_A (cW ad T.1 (cc cI cJ cZ cMic cSrc cSt cAI cAJ ad T)) sz) u.1 t) (va_A (cW ad T.1 (cc cI cJ cZ cMic cSrc cSt cAI cAJ ad T)) sz)) (T1.1 - T.1 + 1) (sg T1 - sg T + 6) (va_A (cW ad T.1 (cc cI cJ cZ cMic cSrc cSt cAI cAJ ad T)) sz)
theorem q_cviX {p : Program} {l : Launch} {e : Env} {R : Room} {s : State} {m : MethodId} {args : Array Value} {below : List Frame} {meth : Method} {c : Code} {H : Heap} {locs : List Loc} {cells slots : Nat} {Q : State → Prop} {cc0 : ByteArray} {pc : Nat} {ls : Array Slot} {rest : List Value} {D : va_G} {A : Nat → Prop} {Ts : List Cond} {own : String} {cI cJ cZ cMic cSrc cSt cAI cAJ : ClassId} {ad : Nat → Nat} {T : AT} {y : MethodName} {bytes : ByteArray} {maxL nL n index fr lo : Nat} {ret : Option FieldType} {ws : List Cond} {As : List Value} {C : String} {TT : u_T} {nf ci q : Nat} {fs : List Value} {post : Int32 → AT → Prop} {X : Nat → State → Prop} (E : cE p c cc0 s m args Ts D own (CT cI cJ cZ cMic cSrc cSt cAI cAJ)) (G : gC cI cJ cZ cMic cSrc cSt cAI cAJ D ad A s.heap H locs T) (hA : ∀ q, s.heap.size ≤ q → A q) (hX : xT A s) (hN : nX s) (hml : c.maxLocals = nL) (hM : kCiX l y ws fr lo cI cJ cZ cMic cSrc cSt cAI cAJ D ad T (.ref (ad q) :: As) X post) (cw : CallW R s args own C index y bytes maxL ret ws { frames := fr, cells := 0, slots := 0, locals := lo } 0 0 n) (hq : q < T.1) (hSq : cc cI cJ cZ cMic cSrc cSt cAI cAJ ad T q = .inr (ci, fs)) (hc : vwCl[ci]? = some (C, TT, nf)) (hn : As.length = n) (hsz : ls.size = nL) {st : List Value} (hst : st = As.reverse ++ .ref (ad q) :: rest) (hW : 2 * (F0 m pc ls st).monitorRoom + (rest.map fun v => v.category).sum ≤ 8) (hdg : decode cc0 pc = .ok (.invokevirtual index, 3)) (hf : cells + 0 ≤ R.cells ∧ slots + 0 ≤ R.slots) (hXb : ∀ (sz : Nat) (a : Array Value) (U : State) (g : JFrame) (mk : MethodId), X sz U → X sz (U.calling g mk a)) (hXp : ∀ U : State, U.heap = H → s.WarmedH U.vm → X H.size U) (kk : ∀ (r : Int32) (T1 : AT) (H1 : Heap) (locs1 : List Loc), post r T1 → gC cI cJ cZ cMic cSrc cSt cAI cAJ D ad A s.heap H1 locs1 T1 → W p l e R s m args below meth c H1 locs1 (cells + 0) (slots + 0) Q (F0 m (pc + 3) ls (.int r :: rest))) : W p l e R s m args below meth c H locs cells slots Q (F0 m pc ls st) := by
  obtain ⟨hx, hb, hts, hown, hK⟩ := E
  obtain ⟨hP, hD, hS⟩ := G
  have hFc := va_free (wc := cW ad T.1 (cc cI cJ cZ cMic cSrc cSt cAI cAJ ad T)) hD hS hA (List.range T.1) (cW_all ad T.1 (cc cI cJ cZ cMic cSrc cSt cAI cAJ ad T))
  refine va_calli (va_runV (As := As) (rest := rest) ⟨hx, hb, hml, hown, hts⟩ (hM H.size) cw ⟨fun a U g mk q => by obtain ⟨q0, ⟨q1, qP, qK, qD, qX, qN⟩, qY⟩ := q; exact ⟨q0, ⟨q1, qP, va_K.moved (u := U) (U := U.calling g mk a) (Vm.Alike.refl U.vm) qK, qD, qX.blind, nX.moved U (U.calling g mk a) (State.WarmedH.refl U) qN⟩, hXb _ _ _ _ _ qY⟩, va_recv hK hP (ci := ci) (q0 := q) hc (cW_e hq hSq), fun U hU hW => ⟨rfl, ⟨by rw [hU], by rw [hU]; exact hP, va_K.moved hW.alike hK, hD.weaken (fun _ _ _ _ => trivial), hX.go hW hU hS hFc, nX.moved s U hW hN⟩, hXp U hU hW⟩⟩ rfl hn hsz hst hW hdg hf) hS (fun q _ h => hFc q h) hFc (fun r u t H1 locs1 ht hvm hw hB hz1 hk1 hS => ?_)
  obtain ⟨hP1, hK1, hD1⟩ := hB
  rw [ht] at hP1
  obtain ⟨hP2, hD2⟩ := va_join (wr := []) (w1 := cW ad u.1 (cc cI cJ cZ cMic cSrc cSt cAI cAJ ad u)) hP hD (List.range T.1) [] (cW_all ad T.1 (cc cI cJ cZ cMic cSrc cSt cAI cAJ ad T)) rfl rfl (fun i hi => absurd hi List.not_mem_nil) hk1 hFc hP1 hD1
  exact kk r u H1 locs1 hw ⟨hP2, hD2, hS⟩
theorem q_cvvX {p : Program} {l : Launch} {e : Env} {R : Room} {s : State} {m : MethodId} {args : Array Value} {below : List Frame} {meth : Method} {c : Code} {H : Heap} {locs : List Loc} {cells slots : Nat} {Q : State → Prop} {cc0 : ByteArray} {pc : Nat} {ls : Array Slot} {rest : List Value} {D : va_G} {A : Nat → Prop} {Ts : List Cond} {own : String} {cI cJ cZ cMic cSrc cSt cAI cAJ : ClassId} {ad : Nat → Nat} {T : AT} {y : MethodName} {bytes : ByteArray} {maxL nL n index fr lo : Nat} {ret : Option FieldType} {ws : List Cond} {As : List Value} {C : String} {TT : u_T} {nf ci q : Nat} {fs : List Value} {post : AT → Prop} {X : Nat → State → Prop} (E : cE p c cc0 s m args Ts D own (CT cI cJ cZ cMic cSrc cSt cAI cAJ)) (G : gC cI cJ cZ cMic cSrc cSt cAI cAJ D ad A s.heap H locs T) (hA : ∀ q, s.heap.size ≤ q → A q) (hX : xT A s) (hN : nX s) (hml : c.maxLocals = nL) (hM : kCvX l y ws fr lo cI cJ cZ cMic cSrc cSt cAI cAJ D ad T (.ref (ad q) :: As) X post) (cw : CallW R s args own C index y bytes maxL ret ws { frames := fr, cells := 0, slots := 0, locals := lo } 0 0 n) (hq : q < T.1) (hSq : cc cI cJ cZ cMic cSrc cSt cAI cAJ ad T q = .inr (ci, fs)) (hc : vwCl[ci]? = some (C, TT, nf)) (hn : As.length = n) (hsz : ls.size = nL) {st : List Value} (hst : st = As.reverse ++ .ref (ad q) :: rest) (hW : 2 * (F0 m pc ls st).monitorRoom + (rest.map fun v => v.category).sum ≤ 8) (hdg : decode cc0 pc = .ok (.invokevirtual index, 3)) (hf : cells + 0 ≤ R.cells ∧ slots + 0 ≤ R.slots) (hXb : ∀ (sz : Nat) (a : Array Value) (U : State) (g : JFrame) (mk : MethodId), X sz U → X sz (U.calling g mk a)) (hXp : ∀ U : State, U.heap = H → s.WarmedH U.vm → X H.size U) (kk : ∀ (T1 : AT) (H1 : Heap) (locs1 : List Loc), post T1 → gC cI cJ cZ cMic cSrc cSt cAI cAJ D ad A s.heap H1 locs1 T1 → W p l e R s m args below meth c H1 locs1 (cells + 0) (slots + 0) Q (F0 m (pc + 3) ls rest)) : W p l e R s m args below meth c H locs cells slots Q (F0 m pc ls st) := by
  obtain ⟨hx, hb, hts, hown, hK⟩ := E
  obtain ⟨hP, hD, hS⟩ := G
  have hFc := va_free (wc := cW ad T.1 (cc cI cJ cZ cMic cSrc cSt cAI cAJ ad T)) hD hS hA (List.range T.1) (cW_all ad T.1 (cc cI cJ cZ cMic cSrc cSt cAI cAJ ad T))
  refine va_callv (va_runV (As := As) (rest := rest) ⟨hx, hb, hml, hown, hts⟩ (hM H.size) cw ⟨fun a U g mk q => by obtain ⟨q0, ⟨q1, qP, qK, qD, qX, qN⟩, qY⟩ := q; exact ⟨q0, ⟨q1, qP, va_K.moved (u := U) (U := U.calling g mk a) (Vm.Alike.refl U.vm) qK, qD, qX.blind, nX.moved U (U.calling g mk a) (State.WarmedH.refl U) qN⟩, hXb _ _ _ _ _ qY⟩, va_recv hK hP (ci := ci) (q0 := q) hc (cW_e hq hSq), fun U hU hW => ⟨rfl, ⟨by rw [hU], by rw [hU]; exact hP, va_K.moved hW.alike hK, hD.weaken (fun _ _ _ _ => trivial), hX.go hW hU hS hFc, nX.moved s U hW hN⟩, hXp U hU hW⟩⟩ rfl hn hsz hst hW hdg hf) hS (fun q _ h => hFc q h) hFc (fun u t H1 locs1 ht hvm hw hB hz1 hk1 hS => ?_)
  obtain ⟨hP1, hK1, hD1⟩ := hB
  rw [ht] at hP1
  obtain ⟨hP2, hD2⟩ := va_join (wr := []) (w1 := cW ad u.1 (cc cI cJ cZ cMic cSrc cSt cAI cAJ ad u)) hP hD (List.range T.1) [] (cW_all ad T.1 (cc cI cJ cZ cMic cSrc cSt cAI cAJ ad T)) rfl rfl (fun i hi => absurd hi List.not_mem_nil) hk1 hFc hP1 hD1
  exact kk u H1 locs1 hw ⟨hP2, hD2, hS⟩
theorem q_xviX {p : Program} {l : Launch} {e : Env} {R : Room} {s : State} {m : MethodId} {args : Array Value} {below : List Frame} {meth : Method} {c : Code} {H : Heap} {locs : List Loc} {cells slots : Nat} {Q : State → Prop} {cc0 : ByteArray} {pc : Nat} {ls : Array Slot} {rest : List Value} {D : va_G} {A : Nat → Prop} {Ts : List Cond} {own : String} {cI cJ cZ cMic cSrc cSt cAI cAJ : ClassId} {ad : Nat → Nat} {T : AT} {y : MethodName} {bytes : ByteArray} {maxL nL n index fr lo : Nat} {ret : Option FieldType} {ws : List Cond} {As : List Value} {C : String} {TT : u_T} {nf ci q : Nat} {fs : List Value} {e1 : Nat} {T1 : AT} {X : Nat → State → Prop} (E : cE p c cc0 s m args Ts D own (CT cI cJ cZ cMic cSrc cSt cAI cAJ)) (G : gC cI cJ cZ cMic cSrc cSt cAI cAJ D ad A s.heap H locs T) (hA : ∀ q, s.heap.size ≤ q → A q) (hX : xT A s) (hN : nX s) (hml : c.maxLocals = nL) (hM : kXiX l y ws fr lo cI cJ cZ cMic cSrc cSt cAI cAJ D ad T (.ref (ad q) :: As) X e1 T1) (cw : CallW R s args own C index y bytes maxL ret ws { frames := fr, cells := 1, slots := 6, locals := lo } 1 6 n) (hq : q < T.1) (hSq : cc cI cJ cZ cMic cSrc cSt cAI cAJ ad T q = .inr (ci, fs)) (hc : vwCl[ci]? = some (C, TT, nf)) (hn : As.length = n) (hsz : ls.size = nL) {st : List Value} (hst : st = As.reverse ++ .ref (ad q) :: rest) (hW : 2 * (F0 m pc ls st).monitorRoom + (rest.map fun v => v.category).sum ≤ 8) (hdg : decode cc0 pc = .ok (.invokevirtual index, 3)) (hf : cells + 1 ≤ R.cells ∧ slots + 6 ≤ R.slots) (hXb : ∀ (sz : Nat) (a : Array Value) (U : State) (g : JFrame) (mk : MethodId), X sz U → X sz (U.calling g mk a)) (hXp : ∀ U : State, U.heap = H → s.WarmedH U.vm → X H.size U) (kx : ∀ (E9 : String) (ce : Cell) (q9 : Addr) (T9 : AT) (H1 : Heap) (locs1 : List Loc), E9 = exn e1 ∧ T9 = T1 → gC cI cJ cZ cMic cSrc cSt cAI cAJ D ad A s.heap H1 locs1 T9 → H1[q9]? = some ce → ce.vm = .none → s.vm.findClass E9 = some ce.cls → vx_W p l e R s m args below meth c H1 locs1 (cells + 1) (slots + 6) Q (F0 m pc ls rest) q9) : W p l e R s m args below meth c H locs cells slots Q (F0 m pc ls st) := by
  obtain ⟨hx, hb, hts, hown, hK⟩ := E
  obtain ⟨hP, hD, hS⟩ := G
  have hFc := va_free (wc := cW ad T.1 (cc cI cJ cZ cMic cSrc cSt cAI cAJ ad T)) hD hS hA (List.range T.1) (cW_all ad T.1 (cc cI cJ cZ cMic cSrc cSt cAI cAJ ad T))
  refine vx_calli (vx_runV (As := As) (rest := rest) ⟨hx, hb, hml, hown, hts⟩ (hM H.size) cw ⟨fun a U g mk q => by obtain ⟨q0, ⟨q1, qP, qK, qD, qX, qN⟩, qY⟩ := q; exact ⟨q0, ⟨q1, qP, va_K.moved (u := U) (U := U.calling g mk a) (Vm.Alike.refl U.vm) qK, qD, qX.blind, nX.moved U (U.calling g mk a) (State.WarmedH.refl U) qN⟩, hXb _ _ _ _ _ qY⟩, va_recv hK hP (ci := ci) (q0 := q) hc (cW_e hq hSq), fun U hU hW => ⟨rfl, ⟨by rw [hU], by rw [hU]; exact hP, va_K.moved hW.alike hK, hD.weaken (fun _ _ _ _ => trivial), hX.go hW hU hS hFc, nX.moved s U hW hN⟩, hXp U hU hW⟩⟩ rfl hn hsz hst hW hdg hf) hS (fun q _ h => hFc q h) hFc (fun q _ h => hFc q h) (fun E9 ce q9 u t H1 locs1 ht hvm _ hB hz1 hk1 hS hce hcv hcl => ?_) (fun r u t H1 locs1 ht hvm hw hB hz1 hk1 hS => hw.elim)
  obtain ⟨hpx, hP1, hK1, hD1⟩ := hB
  rw [ht] at hP1
  obtain ⟨hP2, hD2⟩ := va_join (wr := []) (w1 := cW ad u.1 (cc cI cJ cZ cMic cSrc cSt cAI cAJ ad u)) hP hD (List.range T.1) [] (cW_all ad T.1 (cc cI cJ cZ cMic cSrc cSt cAI cAJ ad T)) rfl rfl (fun i hi => absurd hi List.not_mem_nil) hk1 hFc hP1 hD1
  exact kx E9 ce q9 u H1 locs1 hpx ⟨hP2, hD2, hS⟩ hce hcv hcl
theorem q_xvvX {p : Program} {l : Launch} {e : Env} {R : Room} {s : State} {m : MethodId} {args : Array Value} {below : List Frame} {meth : Method} {c : Code} {H : Heap} {locs : List Loc} {cells slots : Nat} {Q : State → Prop} {cc0 : ByteArray} {pc : Nat} {ls : Array Slot} {rest : List Value} {D : va_G} {A : Nat → Prop} {Ts : List Cond} {own : String} {cI cJ cZ cMic cSrc cSt cAI cAJ : ClassId} {ad : Nat → Nat} {T : AT} {y : MethodName} {bytes : ByteArray} {maxL nL n index fr lo : Nat} {ret : Option FieldType} {ws : List Cond} {As : List Value} {C : String} {TT : u_T} {nf ci q : Nat} {fs : List Value} {e1 : Nat} {T1 : AT} {X : Nat → State → Prop} (E : cE p c cc0 s m args Ts D own (CT cI cJ cZ cMic cSrc cSt cAI cAJ)) (G : gC cI cJ cZ cMic cSrc cSt cAI cAJ D ad A s.heap H locs T) (hA : ∀ q, s.heap.size ≤ q → A q) (hX : xT A s) (hN : nX s) (hml : c.maxLocals = nL) (hM : kXvX l y ws fr lo cI cJ cZ cMic cSrc cSt cAI cAJ D ad T (.ref (ad q) :: As) X e1 T1) (cw : CallW R s args own C index y bytes maxL ret ws { frames := fr, cells := 1, slots := 6, locals := lo } 1 6 n) (hq : q < T.1) (hSq : cc cI cJ cZ cMic cSrc cSt cAI cAJ ad T q = .inr (ci, fs)) (hc : vwCl[ci]? = some (C, TT, nf)) (hn : As.length = n) (hsz : ls.size = nL) {st : List Value} (hst : st = As.reverse ++ .ref (ad q) :: rest) (hW : 2 * (F0 m pc ls st).monitorRoom + (rest.map fun v => v.category).sum ≤ 8) (hdg : decode cc0 pc = .ok (.invokevirtual index, 3)) (hf : cells + 1 ≤ R.cells ∧ slots + 6 ≤ R.slots) (hXb : ∀ (sz : Nat) (a : Array Value) (U : State) (g : JFrame) (mk : MethodId), X sz U → X sz (U.calling g mk a)) (hXp : ∀ U : State, U.heap = H → s.WarmedH U.vm → X H.size U) (kx : ∀ (E9 : String) (ce : Cell) (q9 : Addr) (T9 : AT) (H1 : Heap) (locs1 : List Loc), E9 = exn e1 ∧ T9 = T1 → gC cI cJ cZ cMic cSrc cSt cAI cAJ D ad A s.heap H1 locs1 T9 → H1[q9]? = some ce → ce.vm = .none → s.vm.findClass E9 = some ce.cls → vx_W p l e R s m args below meth c H1 locs1 (cells + 1) (slots + 6) Q (F0 m pc ls rest) q9) : W p l e R s m args below meth c H locs cells slots Q (F0 m pc ls st) := by
  obtain ⟨hx, hb, hts, hown, hK⟩ := E
  obtain ⟨hP, hD, hS⟩ := G
  have hFc := va_free (wc := cW ad T.1 (cc cI cJ cZ cMic cSrc cSt cAI cAJ ad T)) hD hS hA (List.range T.1) (cW_all ad T.1 (cc cI cJ cZ cMic cSrc cSt cAI cAJ ad T))
  refine vx_callv (vx_runV (As := As) (rest := rest) ⟨hx, hb, hml, hown, hts⟩ (hM H.size) cw ⟨fun a U g mk q => by obtain ⟨q0, ⟨q1, qP, qK, qD, qX, qN⟩, qY⟩ := q; exact ⟨q0, ⟨q1, qP, va_K.moved (u := U) (U := U.calling g mk a) (Vm.Alike.refl U.vm) qK, qD, qX.blind, nX.moved U (U.calling g mk a) (State.WarmedH.refl U) qN⟩, hXb _ _ _ _ _ qY⟩, va_recv hK hP (ci := ci) (q0 := q) hc (cW_e hq hSq), fun U hU hW => ⟨rfl, ⟨by rw [hU], by rw [hU]; exact hP, va_K.moved hW.alike hK, hD.weaken (fun _ _ _ _ => trivial), hX.go hW hU hS hFc, nX.moved s U hW hN⟩, hXp U hU hW⟩⟩ rfl hn hsz hst hW hdg hf) hS (fun q _ h => hFc q h) hFc (fun q _ h => hFc q h) (fun E9 ce q9 u t H1 locs1 ht hvm _ hB hz1 hk1 hS hce hcv hcl => ?_) (fun u t H1 locs1 ht hvm hw hB hz1 hk1 hS => hw.elim)
  obtain ⟨hpx, hP1, hK1, hD1⟩ := hB
  rw [ht] at hP1
  obtain ⟨hP2, hD2⟩ := va_join (wr := []) (w1 := cW ad u.1 (cc cI cJ cZ cMic cSrc cSt cAI cAJ ad u)) hP hD (List.range T.1) [] (cW_all ad T.1 (cc cI cJ cZ cMic cSrc cSt cAI cAJ ad T)) rfl rfl (fun i hi => absurd hi List.not_mem_nil) hk1 hFc hP1 hD1
  exact kx E9 ce q9 u H1 locs1 hpx ⟨hP2, hD2, hS⟩ hce hcv hcl
def yT0 (cI cJ cZ cMic cSrc cSt cAI cAJ : ClassId) (h0 : Nat) (ad : Nat → Nat) (T : AT) (sz : Nat) (U : State) : Prop := (∀ a, va_A (cW ad T.1 (cc cI cJ cZ cMic cSrc cSt cAI cAJ ad T)) sz a → h0 ≤ a) ∧ sAll h0 U
def yT1 (cI cJ cZ cMic cSrc cSt cAI cAJ : ClassId) (h0 : Nat) (ad : Nat → Nat) (T : AT) (tx : Nat × (Nat → Int32)) (q sz : Nat) (U : State) : Prop := yT0 cI cJ cZ cMic cSrc cSt cAI cAJ h0 ad T sz U ∧ sO tx q (fun a => h0 ≤ a) U U.heap
theorem yT0.blind {cI cJ cZ cMic cSrc cSt cAI cAJ : ClassId} {ad : Nat → Nat} {h0 : Nat} {T : AT} (sz : Nat) (a : Array Value) (U : State) (g : JFrame) (mk : MethodId) (h : yT0 cI cJ cZ cMic cSrc cSt cAI cAJ h0 ad T sz U) : yT0 cI cJ cZ cMic cSrc cSt cAI cAJ h0 ad T sz (U.calling g mk a) := ⟨h.1, h.2.blind⟩
theorem yT1.blind {cI cJ cZ cMic cSrc cSt cAI cAJ : ClassId} {ad : Nat → Nat} {h0 : Nat} {T : AT} {tx : Nat × (Nat → Int32)} {q : Nat} (sz : Nat) (a : Array Value) (U : State) (g : JFrame) (mk : MethodId) (h : yT1 cI cJ cZ cMic cSrc cSt cAI cAJ h0 ad T tx q sz U) : yT1 cI cJ cZ cMic cSrc cSt cAI cAJ h0 ad T tx q sz (U.calling g mk a) := ⟨⟨h.1.1, h.1.2.blind⟩, sO.moved (u := U) (U := U.calling g mk a) (Vm.Alike.refl U.vm) h.2⟩
theorem yT0.go {D : va_G} {cI cJ cZ cMic cSrc cSt cAI cAJ : ClassId} {ad : Nat → Nat} {h0 : Nat} {T : AT} {A : Nat → Prop} {s : State} {H : Heap} {locs : List Loc} (hT : sAll h0 s) (hA0 : ∀ a : Nat, A a → h0 ≤ a) (hA : ∀ q : Nat, s.heap.size ≤ q → A q) (G : gC cI cJ cZ cMic cSrc cSt cAI cAJ D ad A s.heap H locs T) (U : State) (hU : U.heap = H) (hW : s.WarmedH U.vm) : yT0 cI cJ cZ cMic cSrc cSt cAI cAJ h0 ad T H.size U :=
  ⟨fun a h => hA0 a (va_free (wc := cW ad T.1 (cc cI cJ cZ cMic cSrc cSt cAI cAJ ad T)) G.2.1 G.2.2 hA (List.range T.1) (cW_all ad T.1 (cc cI cJ cZ cMic cSrc cSt cAI cAJ ad T)) a h), hT.moved hA0 G.2.2 hU hW⟩
theorem yT1.go {D : va_G} {cI cJ cZ cMic cSrc cSt cAI cAJ : ClassId} {ad : Nat → Nat} {h0 : Nat} {T : AT} {A : Nat → Prop} {s : State} {H : Heap} {locs : List Loc} {tx : Nat × (Nat → Int32)} {q : Nat} (hT : sAll h0 s) (hA0 : ∀ a : Nat, A a → h0 ≤ a) (hA : ∀ q : Nat, s.heap.size ≤ q → A q) (G : gC cI cJ cZ cMic cSrc cSt cAI cAJ D ad A s.heap H locs T) (hO : sO tx q (fun a => h0 ≤ a) s s.heap) (U : State) (hU : U.heap = H) (hW : s.WarmedH U.vm) : yT1 cI cJ cZ cMic cSrc cSt cAI cAJ h0 ad T tx q H.size U :=
  ⟨yT0.go hT hA0 hA G U hU hW, by rw [hU]; exact sO.moved hW.alike (hO.kept (fun a h1 h2 => G.2.2.2.1 a h1 (fun h3 => h2 (hA0 a h3))))⟩
theorem va_alda {p : Program} {l : Launch} {e : Env} {R : Room} {s : State} {m : MethodId} {args : Array Value} {below : List Frame} {meth : Method} {c : Code} {H : Heap} {locs : List Loc} {cells slots : Nat} {Q : State → Prop} {cc0 : ByteArray} {pc : Nat} {ls : Array Slot} {rest : List Value} {D : va_G}   {a : Nat} {tys : List (ClassId × FieldType)} {ws : va_W} (hexec : p.tables.exec = Jvm.exec) (hb : c.code = cc0) (hK : va_K D vwCl tys s) (hP : va_P D vwCl ws H) (q0 t0 : Nat) {cA : ClassId} {ty : FieldType} {n : Nat} {f : Nat → Option Nat} (ha : ws[q0]? = some (a, .inl (cA, n, .inr (.inr (.inr (.inr f)))))) (ht : tys[t0]? = some (cA, .array ty)) {i : Int32} (hin : vp_in i n) (hdg : decode cc0 pc = .ok (.aaload, 1))
    (kk : W p l e R s m args below meth c H locs cells slots Q (F0 m (pc + 1) ls (va_rf (f i.toNatClampNeg) :: rest))) : W p l e R s m args below meth c H locs cells slots Q (F0 m pc ls (.int i :: .ref a :: rest)) := by
  have hlt : i.toNatClampNeg < n := Nat.not_le.mp fun q => hin (Or.inr q)
  exact W.aald (v := va_rf (f i.toNatClampNeg)) (ty := .array ty) hexec hb (hP q0 _ ha) ((hK.2 t0 _ ht).1 n (fun j => va_rf (f j))) rfl (fun q => by cases q) (by show ¬ (i < 0 ∨ (arrV _ _ _).slots.size ≤ _); rw [arrV_size]; exact hin) (by show (arrV _ _ _).slots[_]? = _; rw [arrV_read _ _ hlt]) rfl rfl hdg kk
theorem c_alda {N : Nat} {S : Nat → va_E} {tys : List (ClassId × FieldType)} {H0 : Heap} {ad : Nat → Nat} {p : Program} {l : Launch} {e : Env} {R : Room} {s : State} {m : MethodId} {args : Array Value} {below : List Frame} {meth : Method} {c : Code} {H : Heap} {locs : List Loc} {cells slots : Nat} {Q : State → Prop} {cc0 : ByteArray} {pc : Nat} {ls : Array Slot} {rest : List Value} {D : va_G} {A : Nat → Prop} {Ts : List Cond} {own : String}  (E : cE p c cc0 s m args Ts D own tys) (G : cG D ad N A H0 H locs S) (q t0 : Nat) {cA : ClassId} {ty : FieldType} {n k : Nat} {f : Nat → Option Nat} {i : Int32} {v : Value} (hq : q < N) (hS : S q = .inl (cA, n, .inr (.inr (.inr (.inr f))))) (ht : tys[t0]? = some (cA, .array ty)) (hi : i = nI k) (hk : k < n) (hn : n < 2 ^ 31) (hv : va_rf (f k) = v) (hdg : decode cc0 pc = .ok (.aaload, 1)) (kk : W p l e R s m args below meth c H locs cells slots Q (F0 m (pc + 1) ls (v :: rest))) : W p l e R s m args below meth c H locs cells slots Q (F0 m pc ls (.int i :: .ref (ad q) :: rest)) := by
  subst hi
  subst hv
  refine va_alda E.1 E.2.1 E.2.2.2.2 G.1 q t0 (cW_e hq hS) ht (vp_in_nI hk hn) hdg ?_
  rw [nI_clamp (Nat.lt_trans hk hn)]
  exact kk
end
section
/-! 11bb.ja.lean.txt -/
set_option maxHeartbeats 4000000 in
set_option maxRecDepth 100000 in
theorem ja_coder (l : Launch) {tx : Nat × (Nat → Int32)} {q : Nat} : Met l yJ0_coder_7d493 (Cond.code yJ0_coder_7d493 cJ0_coder_7d493 1 (some .byte) :: wsA) { frames := 1, cells := 0, slots := 0, locals := 0 } (va_Pc [.ref q] (sP tx q)) (vp_Si (fun r => r = 0)) 0 0 (fun _ => False) := by
  refine pro_in (cc := cJ0_coder_7d493) (maxL := 1) (ret := (some .byte)) (by exact pn_RJ0) rfl (by exact Nat.le_of_ble_eq_true rfl) (fun p e s m below meth c ls hx hb hr hts hown hlocks hml hv hl => ?_)
  have hS : va_S (fun _ : Nat => False) s.heap s.heap [] := va_S.rf
  have hl : lv_has ls 1 [(0, .ref q)] := hl
  obtain ⟨⟨v, h1, h2, h3, h4⟩, h5, h6⟩ := hv
  refine va_gets (v := .int 1) hx hb h5 hS hown (hts _ (.tail _ qA_254)) (fun _ h => h) dJ0_coder_7d493_0 ?_
  refine lv_if_eq (tgt := 13) hx hb dJ0_coder_7d493_3 (by decide) (fun h => absurd h (by decide)) (fun _ => ?_)
  refine lv_aload_n hx hb dJ0_coder_7d493_6 rfl (lv_at hl 0 rfl) ?_
  refine vk_getf hx hb h2 hS hown (hts _ (.tail _ qA_255)) (fun _ h => h) dJ0_coder_7d493_7 ?_
  refine lv_goto (tgt := 14) hx hb dJ0_coder_7d493_10 (by decide) ?_
  exact W.zret (v := 0) hx hb hr rfl (fun t ht hW => ⟨0, rfl, rfl, ht⟩) (fun _ h => absurd h List.not_mem_nil) dJ0_coder_7d493_14
set_option maxHeartbeats 4000000 in
set_option maxRecDepth 100000 in
theorem ja_isLatin1 (l : Launch) {tx : Nat × (Nat → Int32)} {q : Nat} : Met l yJ0_isLatin1_aae02 (Cond.code yJ0_isLatin1_aae02 cJ0_isLatin1_aae02 1 (some .boolean) :: wsA) { frames := 1, cells := 0, slots := 0, locals := 0 } (va_Pc [.ref q] (sP tx q)) (vp_Si (fun r => r = 1)) 0 0 (fun _ => False) := by
  refine pro_in (cc := cJ0_isLatin1_aae02) (maxL := 1) (ret := (some .boolean)) (by exact pn_RJ0) rfl (by exact Nat.le_of_ble_eq_true rfl) (fun p e s m below meth c ls hx hb hr hts hown hlocks hml hv hl => ?_)
  have hS : va_S (fun _ : Nat => False) s.heap s.heap [] := va_S.rf
  have hl : lv_has ls 1 [(0, .ref q)] := hl
  obtain ⟨⟨v, h1, h2, h3, h4⟩, h5, h6⟩ := hv
  refine va_gets (v := .int 1) hx hb h5 hS hown (hts _ (.tail _ qA_254)) (fun _ h => h) dJ0_isLatin1_aae02_0 ?_
  refine lv_if_eq (tgt := 17) hx hb dJ0_isLatin1_aae02_3 (by decide) (fun h => absurd h (by decide)) (fun _ => ?_)
  refine lv_aload_n hx hb dJ0_isLatin1_aae02_6 rfl (lv_at hl 0 rfl) ?_
  refine vk_getf hx hb h2 hS hown (hts _ (.tail _ qA_255)) (fun _ h => h) dJ0_isLatin1_aae02_7 ?_
  refine lv_if_ne (tgt := 17) hx hb dJ0_isLatin1_aae02_10 (by decide) (fun h => absurd rfl h) (fun _ => ?_)
  refine lv_iconst (v := 1) hx hb dJ0_isLatin1_aae02_13 (by decide) ?_
  refine lv_goto (tgt := 18) hx hb dJ0_isLatin1_aae02_14 (by decide) ?_
  exact W.zret (v := 1) hx hb hr rfl (fun t ht hW => ⟨1, rfl, rfl, ht⟩) (fun _ h => absurd h List.not_mem_nil) dJ0_isLatin1_aae02_18
set_option maxHeartbeats 4000000 in
set_option maxRecDepth 100000 in
theorem ja_length (l : Launch) {tx : Nat × (Nat → Int32)} {q : Nat} : Met l yJ0_length_8abf5 (Cond.code yJ0_length_8abf5 cJ0_length_8abf5 1 (some .int) :: wsA) { frames := 2, cells := 0, slots := 0, locals := 20 } (va_Pc [.ref q] (sP tx q)) (vp_Si (fun r => r = nI tx.1 >>> (0 &&& 31))) 0 0 (fun _ => False) := by
  refine pro_in (cc := cJ0_length_8abf5) (maxL := 1) (ret := (some .int)) (by exact pn_RJ0) rfl (by exact Nat.le_of_ble_eq_true rfl) (fun p e s m below meth c ls hx hb hr hts hown hlocks hml hv hl => ?_)
  have hS : va_S (fun _ : Nat => False) s.heap s.heap [] := va_S.rf
  have hl : lv_has ls 1 [(0, .ref q)] := hl
  obtain ⟨⟨v, h1, h2, h3, h4⟩, h5, h6⟩ := id hv
  refine lv_aload_n hx hb dJ0_length_8abf5_0 rfl (lv_at hl 0 rfl) ?_
  refine vk_getf hx hb h3 hS hown (hts _ (.tail _ qA_249)) (fun _ h => h) dJ0_length_8abf5_1 ?_
  refine va_tlen (v := nI tx.1) hx hb h4 hS rfl dJ0_length_8abf5_4 ?_
  refine lv_aload_n hx hb dJ0_length_8abf5_5 rfl (lv_at hl 0 rfl) ?_
  refine s_callV (As := []) (rest := [.int (nI tx.1)]) ⟨hx, hb, hml, hown, hts⟩ (ja_coder l (tx := tx) (q := q)) (cwV 0 hts (gaV qA_250 qA_251 qA_252 qA_247 qA_253) rfl rfl rfl (by decide +kernel) ⟨Nat.le_of_ble_eq_true rfl, Nat.le_of_ble_eq_true rfl⟩) (h1.elim fun cell h => ⟨cell, h.1, h.2.1, h.2.2.1⟩) (fun _ _ _ _ h => h.blind) (fun U hU hW => ⟨by rw [hU]; exact sO.moved hW.alike hv.1, by rw [hU]; exact sZ.moved hW.alike hv.2⟩) rfl hl.1 rfl (lv_room (Nat.le_of_ble_eq_true rfl)) dJ0_length_8abf5_6 ⟨Nat.zero_le _, Nat.zero_le _⟩ (fun r hq => ?_)
  refine lv_to hq ?_
  refine lv_ishr hx hb dJ0_length_8abf5_9 ?_
  exact W.iret (v := (nI tx.1 >>> (0 &&& 31))) hx hb hr (fun t ht hW => ⟨(nI tx.1 >>> (0 &&& 31)), rfl, rfl, ht⟩) (fun _ h => absurd h List.not_mem_nil) dJ0_length_8abf5_10
set_option maxHeartbeats 4000000 in
set_option maxRecDepth 100000 in
theorem ja_ck3n (l : Launch) {i n : Nat} (hi : i < n) (hn : n < 2 ^ 31) : Met l yJ3_checkIndex_8e157 (Cond.code yJ3_checkIndex_8e157 cJ3_checkIndex_8e157 3 (some .int) :: wsA) { frames := 1, cells := 0, slots := 0, locals := 0 } (va_Pc [.int (nI i), .int (nI n), .null] (fun _ => True)) (vp_Si (fun r => r = nI i)) 0 0 (fun _ => False) := by
  refine pro_in (cc := cJ3_checkIndex_8e157) (maxL := 3) (ret := (some .int)) (by exact pn_RJ3) rfl (by exact Nat.le_of_ble_eq_true rfl) (fun p e s m below meth c ls hx hb hr hts hown hlocks hml hv hl => ?_)
  have hS : va_S (fun _ : Nat => False) s.heap s.heap [] := va_S.rf
  have hl : lv_has ls 3 [(0, .int (nI i)), (1, .int (nI n)), (2, .null)] := hl
  refine lv_iload_n hx hb dJ3_checkIndex_8e157_0 rfl (lv_at hl 0 rfl) ?_
  refine lv_if_lt (tgt := 9) hx hb dJ3_checkIndex_8e157_1 (by decide) (fun h => absurd h (nI_pos (Nat.lt_trans hi hn))) (fun _ => ?_)
  refine lv_iload_n hx hb dJ3_checkIndex_8e157_4 rfl (lv_at hl 0 rfl) ?_
  refine lv_iload_n hx hb dJ3_checkIndex_8e157_5 rfl (lv_at hl 1 rfl) ?_
  refine lv_icmp_lt (tgt := 16) hx hb dJ3_checkIndex_8e157_6 (by decide) (fun _ => ?_) (fun h => absurd (nI_lt hi hn) h)
  refine lv_iload_n hx hb dJ3_checkIndex_8e157_16 rfl (lv_at hl 0 rfl) ?_
  exact W.iret (v := (nI i)) hx hb hr (fun t ht hW => ⟨(nI i), rfl, rfl, ht⟩) (fun _ h => absurd h List.not_mem_nil) dJ3_checkIndex_8e157_17
set_option maxHeartbeats 4000000 in
set_option maxRecDepth 100000 in
theorem ja_ck3r (l : Launch) {i n : Nat} {z : Nat} (hi : i < n) (hn : n < 2 ^ 31) : Met l yJ3_checkIndex_8e157 (Cond.code yJ3_checkIndex_8e157 cJ3_checkIndex_8e157 3 (some .int) :: wsA) { frames := 1, cells := 0, slots := 0, locals := 0 } (va_Pc [.int (nI i), .int (nI n), .ref z] (fun _ => True)) (vp_Si (fun r => r = nI i)) 0 0 (fun _ => False) := by
  refine pro_in (cc := cJ3_checkIndex_8e157) (maxL := 3) (ret := (some .int)) (by exact pn_RJ3) rfl (by exact Nat.le_of_ble_eq_true rfl) (fun p e s m below meth c ls hx hb hr hts hown hlocks hml hv hl => ?_)
  have hS : va_S (fun _ : Nat => False) s.heap s.heap [] := va_S.rf
  have hl : lv_has ls 3 [(0, .int (nI i)), (1, .int (nI n)), (2, .ref z)] := hl
  refine lv_iload_n hx hb dJ3_checkIndex_8e157_0 rfl (lv_at hl 0 rfl) ?_
  refine lv_if_lt (tgt := 9) hx hb dJ3_checkIndex_8e157_1 (by decide) (fun h => absurd h (nI_pos (Nat.lt_trans hi hn))) (fun _ => ?_)
  refine lv_iload_n hx hb dJ3_checkIndex_8e157_4 rfl (lv_at hl 0 rfl) ?_
  refine lv_iload_n hx hb dJ3_checkIndex_8e157_5 rfl (lv_at hl 1 rfl) ?_
  refine lv_icmp_lt (tgt := 16) hx hb dJ3_checkIndex_8e157_6 (by decide) (fun _ => ?_) (fun h => absurd (nI_lt hi hn) h)
  refine lv_iload_n hx hb dJ3_checkIndex_8e157_16 rfl (lv_at hl 0 rfl) ?_
  exact W.iret (v := (nI i)) hx hb hr (fun t ht hW => ⟨(nI i), rfl, rfl, ht⟩) (fun _ h => absurd h List.not_mem_nil) dJ3_checkIndex_8e157_17
set_option maxHeartbeats 4000000 in
set_option maxRecDepth 100000 in
theorem ja_ck0 (l : Launch) {i n : Nat} (hi : i < n) (hn : n < 2 ^ 31) : Met l yJ0_checkIndex_df160 (Cond.code yJ0_checkIndex_df160 cJ0_checkIndex_df160 2 none :: wsA) { frames := 2, cells := 0, slots := 0, locals := 22 } (va_Pc [.int (nI i), .int (nI n)] (fun U => sZ (fun _ => False) U U.heap)) s_Sv 0 0 (fun _ => False) := by
  refine pro_in (cc := cJ0_checkIndex_df160) (maxL := 2) (ret := none) (by exact pn_RJ0) rfl (by exact Nat.le_of_ble_eq_true rfl) (fun p e s m below meth c ls hx hb hr hts hown hlocks hml hv hl => ?_)
  have hS : va_S (fun _ : Nat => False) s.heap s.heap [] := va_S.rf
  have hl : lv_has ls 2 [(0, .int (nI i)), (1, .int (nI n))] := hl
  obtain ⟨h5, h6⟩ := hv
  refine lv_iload_n hx hb dJ0_checkIndex_df160_0 rfl (lv_at hl 0 rfl) ?_
  refine lv_iload_n hx hb dJ0_checkIndex_df160_1 rfl (lv_at hl 1 rfl) ?_
  rcases h6 with h6 | ⟨z, h6⟩
  · refine va_gets (v := .null) hx hb h6 hS hown (hts _ (.tail _ qA_271)) (fun _ h => h) dJ0_checkIndex_df160_2 ?_
    refine s_stat (As := [.int (nI i), .int (nI n), .null]) (rest := []) ⟨hx, hb, hml, hown, hts⟩ (ja_ck3n l hi hn) ⟨callB_of 3 hts (gaIn (L := []) (fun _ h => absurd h List.not_mem_nil) qA_275) rfl rfl rfl (hts _ (.tail _ qA_274)) (hts _ (.tail _ qA_272)) (by decide +kernel) ⟨Nat.le_of_ble_eq_true rfl, Nat.le_of_ble_eq_true rfl⟩, hts _ (.tail _ qA_273)⟩ (fun _ _ _ _ h => h) (fun _ _ _ => trivial) rfl hl.1 rfl (lv_room (Nat.le_of_ble_eq_true rfl)) dJ0_checkIndex_df160_5 ⟨Nat.zero_le _, Nat.zero_le _⟩ (fun r hq => ?_)
    refine lv_pop hx hb dJ0_checkIndex_df160_8 rfl ?_
    exact W.vret hx hb hr (fun t ht hW => ⟨rfl, ht⟩) (fun _ h => absurd h List.not_mem_nil) dJ0_checkIndex_df160_9
  · refine va_gets (v := .ref z) hx hb h6 hS hown (hts _ (.tail _ qA_271)) (fun _ h => h) dJ0_checkIndex_df160_2 ?_
    refine s_stat (As := [.int (nI i), .int (nI n), .ref z]) (rest := []) ⟨hx, hb, hml, hown, hts⟩ (ja_ck3r l hi hn) ⟨callB_of 3 hts (gaIn (L := []) (fun _ h => absurd h List.not_mem_nil) qA_275) rfl rfl rfl (hts _ (.tail _ qA_274)) (hts _ (.tail _ qA_272)) (by decide +kernel) ⟨Nat.le_of_ble_eq_true rfl, Nat.le_of_ble_eq_true rfl⟩, hts _ (.tail _ qA_273)⟩ (fun _ _ _ _ h => h) (fun _ _ _ => trivial) rfl hl.1 rfl (lv_room (Nat.le_of_ble_eq_true rfl)) dJ0_checkIndex_df160_5 ⟨Nat.zero_le _, Nat.zero_le _⟩ (fun r hq => ?_)
    refine lv_pop hx hb dJ0_checkIndex_df160_8 rfl ?_
    exact W.vret hx hb hr (fun t ht hW => ⟨rfl, ht⟩) (fun _ h => absurd h List.not_mem_nil) dJ0_checkIndex_df160_9
set_option maxHeartbeats 4000000 in
set_option maxRecDepth 100000 in
theorem ja_ch1 (l : Launch) {v k n : Nat} {f : Nat → Int32} (hk : k < n) (hn : n < 2 ^ 31) (hc : narrow .char (.int (s_ch (f k))) = .int (s_ch (f k))) : Met l yJ1_charAt_3b067 (Cond.code yJ1_charAt_3b067 cJ1_charAt_3b067 2 (some .char) :: wsA) { frames := 3, cells := 0, slots := 0, locals := 44 } (va_Pc [.ref v, .int (nI k)] (fun U => va_T .byte v n (fun j => .int (f j)) (fun _ => False) U U.heap ∧ sZ (fun _ => False) U U.heap)) (vp_Si (fun r => r = s_ch (f k))) 0 0 (fun _ => False) := by
  refine pro_in (cc := cJ1_charAt_3b067) (maxL := 2) (ret := (some .char)) (by exact pn_RJ1) rfl (by exact Nat.le_of_ble_eq_true rfl) (fun p e s m below meth c ls hx hb hr hts hown hlocks hml hv hl => ?_)
  have hS : va_S (fun _ : Nat => False) s.heap s.heap [] := va_S.rf
  have hl : lv_has ls 2 [(0, .ref v), (1, .int (nI k))] := hl
  obtain ⟨h4, h5⟩ := hv
  refine lv_iload_n hx hb dJ1_charAt_3b067_0 rfl (lv_at hl 1 rfl) ?_
  refine lv_aload_n hx hb dJ1_charAt_3b067_1 rfl (lv_at hl 0 rfl) ?_
  refine va_tlen (v := nI n) hx hb h4 hS rfl dJ1_charAt_3b067_2 ?_
  refine s_statv (As := [.int (nI k), .int (nI n)]) (rest := []) ⟨hx, hb, hml, hown, hts⟩ (ja_ck0 l hk hn) ⟨callB_of 2 hts (gaIn (L := []) (fun _ h => absurd h List.not_mem_nil) qA_270) rfl rfl rfl (hts _ (.tail _ qA_247)) (hts _ (.tail _ qA_268)) (by decide +kernel) ⟨Nat.le_of_ble_eq_true rfl, Nat.le_of_ble_eq_true rfl⟩, hts _ (.tail _ qA_269)⟩ (fun _ U g mk h => sZ.moved (u := U) (Vm.Alike.refl U.vm) h) (fun U hU hW => by rw [hU]; exact sZ.moved hW.alike h5) rfl hl.1 rfl (lv_room (Nat.le_of_ble_eq_true rfl)) dJ1_charAt_3b067_3 ⟨Nat.zero_le _, Nat.zero_le _⟩ ?_
  refine lv_aload_n hx hb dJ1_charAt_3b067_6 rfl (lv_at hl 0 rfl) ?_
  refine lv_iload_n hx hb dJ1_charAt_3b067_7 rfl (lv_at hl 1 rfl) ?_
  refine va_tb (v := .int (f k)) hx hb h4 hS (vp_in_nI hk hn) (by rw [nI_clamp (Nat.lt_trans hk hn)]) dJ1_charAt_3b067_8 ?_
  refine lv_sipush (v := 255) hx hb dJ1_charAt_3b067_9 (by decide) ?_
  refine lv_iand hx hb dJ1_charAt_3b067_12 ?_
  refine lv_i2c (v := s_ch (f k)) hx hb dJ1_charAt_3b067_13 rfl ?_
  exact W.zret (v := (s_ch (f k))) hx hb hr hc (fun t ht hW => ⟨(s_ch (f k)), rfl, rfl, ht⟩) (fun _ h => absurd h List.not_mem_nil) dJ1_charAt_3b067_14
set_option maxHeartbeats 4000000 in
set_option maxRecDepth 100000 in
theorem ja_charAt (l : Launch) {tx : Nat × (Nat → Int32)} {q : Nat} {k : Nat} (hk : k < tx.1) (hn : tx.1 < 2 ^ 31) (hc : narrow .char (.int (s_ch (tx.2 k))) = .int (s_ch (tx.2 k))) : Met l yJ0_charAt_5068e (Cond.code yJ0_charAt_5068e cJ0_charAt_5068e 2 (some .char) :: wsA) { frames := 4, cells := 0, slots := 0, locals := 66 } (va_Pc [.ref q, .int (nI k)] (sP tx q)) (vp_Si (fun r => r = s_ch (tx.2 k))) 0 0 (fun _ => False) := by
  refine pro_in (cc := cJ0_charAt_5068e) (maxL := 2) (ret := (some .char)) (by exact pn_RJ0) rfl (by exact Nat.le_of_ble_eq_true rfl) (fun p e s m below meth c ls hx hb hr hts hown hlocks hml hv hl => ?_)
  have hS : va_S (fun _ : Nat => False) s.heap s.heap [] := va_S.rf
  have hl : lv_has ls 2 [(0, .ref q), (1, .int (nI k))] := hl
  obtain ⟨⟨v, h1, h2, h3, h4⟩, h5⟩ := id hv
  refine lv_aload_n hx hb dJ0_charAt_5068e_0 rfl (lv_at hl 0 rfl) ?_
  refine s_callV (As := []) (rest := []) ⟨hx, hb, hml, hown, hts⟩ (ja_isLatin1 l (tx := tx) (q := q)) (cwV 0 hts (gaV qA_260 qA_261 qA_262 qA_247 qA_263) rfl rfl rfl (by decide +kernel) ⟨Nat.le_of_ble_eq_true rfl, Nat.le_of_ble_eq_true rfl⟩) (h1.elim fun cell h => ⟨cell, h.1, h.2.1, h.2.2.1⟩) (fun _ _ _ _ h => h.blind) (fun U hU hW => ⟨by rw [hU]; exact sO.moved hW.alike hv.1, by rw [hU]; exact sZ.moved hW.alike hv.2⟩) rfl hl.1 rfl (lv_room (Nat.le_of_ble_eq_true rfl)) dJ0_charAt_5068e_1 ⟨Nat.zero_le _, Nat.zero_le _⟩ (fun r hq => ?_)
  refine lv_to hq ?_
  refine lv_if_eq (tgt := 16) hx hb dJ0_charAt_5068e_4 (by decide) (fun h => absurd h (by decide)) (fun _ => ?_)
  refine lv_aload_n hx hb dJ0_charAt_5068e_7 rfl (lv_at hl 0 rfl) ?_
  refine vk_getf hx hb h3 hS hown (hts _ (.tail _ qA_249)) (fun _ h => h) dJ0_charAt_5068e_8 ?_
  refine lv_iload_n hx hb dJ0_charAt_5068e_11 rfl (lv_at hl 1 rfl) ?_
  refine s_stat (As := [.ref v, .int (nI k)]) (rest := []) ⟨hx, hb, hml, hown, hts⟩ (ja_ch1 l (v := v) (n := tx.1) (f := tx.2) hk hn hc) ⟨callB_of 2 hts (gaIn (L := []) (fun _ h => absurd h List.not_mem_nil) qA_267) rfl rfl rfl (hts _ (.tail _ qA_266)) (hts _ (.tail _ qA_264)) (by decide +kernel) ⟨Nat.le_of_ble_eq_true rfl, Nat.le_of_ble_eq_true rfl⟩, hts _ (.tail _ qA_265)⟩ (fun _ U g mk h => ⟨va_T.moved (u := U) (Vm.Alike.refl U.vm) h.1, sZ.moved (u := U) (Vm.Alike.refl U.vm) h.2⟩) (fun U hU hW => ⟨by rw [hU]; exact va_T.moved hW.alike h4, by rw [hU]; exact sZ.moved hW.alike h5⟩) rfl hl.1 rfl (lv_room (Nat.le_of_ble_eq_true rfl)) dJ0_charAt_5068e_12 ⟨Nat.zero_le _, Nat.zero_le _⟩ (fun r hq => ?_)
  refine lv_to hq ?_
  exact W.zret (v := (s_ch (tx.2 k))) hx hb hr hc (fun t ht hW => ⟨(s_ch (tx.2 k)), rfl, rfl, ht⟩) (fun _ h => absurd h List.not_mem_nil) dJ0_charAt_5068e_15
end
section
/-! 11c.dec1.lean.txt -/
def fr_thrown (S : MS)  : Option (Int32 × MS) := elet (S.1 0) fun v2 => some (v2, S)
set_option maxHeartbeats 4000000 in
set_option maxRecDepth 100000 in
theorem tr_thrown (l : Launch) (D : va_G) (cI cJ cZ : ClassId) (ad : Nat → Nat) (S : MS)  {r1 : Int32} {S1 : MS} (h : fr_thrown S = some (r1, S1)) : mCi l yX12_thrown (Cond.code yX12_thrown cX12_thrown 1 (some .int) :: wsM) 1 0 D cI cJ cZ ad S [] (fun r S9 => r = r1 ∧ S9 = S1) := by
  intro sz
  refine pro_in (cc := cX12_thrown) (maxL := 1) (ret := (some .int)) (by exact pn_RX12) rfl (by exact Nat.le_of_ble_eq_true rfl) (fun p e s m below meth c ls hx hb hr hts hown hlocks hml hv hl => ?_)
  obtain ⟨hsz, hP, hK, hD0, hR⟩ := hv
  subst hsz
  have hD := hD0.self (sz := s.heap.size)
  generalize hAe : va_A (MW cI cJ cZ ad S) s.heap.size = A at hD ⊢
  have hA : ∀ q : Nat, s.heap.size ≤ q → A q := fun q h => by rw [← hAe]; exact Or.inr h
  have G : mG D cI cJ cZ ad A s.heap s.heap [] S := ⟨hP, hD, va_S.rf⟩
  have E : mE p c cX12_thrown s m ([.ref (ad 0)] : List Value).toArray (Cond.code yX12_thrown cX12_thrown 1 (some .int) :: wsM) D cI cJ cZ := ⟨hx, hb, hts, hown, hK, fun w h => .tail _ (iM_x h)⟩
  have hl : lv_has ls 1 [(0, .ref (ad 0))] := hl
  unfold fr_thrown at h
  refine lv_aload_n hx hb dX12_thrown_0 rfl (lv_at hl 0 rfl) ?_
  refine m_get E G 0 (v := .int (S.1 0)) (by decide) (.tail _ qM_26) rfl dX12_thrown_1 rfl ?_
  refine lv_topi (fun v2 ev2 => ?_)
  have h := elet_at ev2 h
  clear ev2
  exact W.iret (v := v2) hx hb hr (fun t ht hW => ⟨⟨v2, S, rfl, osome2 h, ⟨by rw [ht]; exact G.1, va_K.moved hW.alike hK, G.2.1⟩⟩, G.2.2.F ht⟩) G.2.2.2.2 dX12_thrown_4
def fr_in_b15   (s0 : Int32) : Option (Int32) := oif (s0 = 0 ∨ s0 = 1) <| some s0
set_option maxHeartbeats 4000000 in
set_option maxRecDepth 100000 in
theorem tr_in_b15 {p : Program} {l : Launch} {e : Env} {s : State} {m : MethodId} {args : Array Value} {below : List Frame} {meth : Method} {c : Code} {Q : State → Prop} {r1 : Int32} (E : p.tables.exec = Jvm.exec ∧ c.code = cX12_in ∧ (∀ w ∈ (Cond.code yX12_in cX12_in 3 (some .boolean) :: wsM), w.before args s = true) ∧ s.vm.findClass RX12 = some m.cls) (hml : c.maxLocals = 3) (kr15 : ∀ (ls : Array Slot), (r1 = 0 ∨ r1 = 1) → W p l e { frames := 1, cells := 0, slots := 0, locals := 0 } s m args below meth c s.heap [] 0 0 Q (F0 m 15 ls [.int r1])) : ∀ (ls : Array Slot) (s0 : Int32), fr_in_b15 s0 = some r1 → lv_has ls 3 [] → W p l e { frames := 1, cells := 0, slots := 0, locals := 0 } s m args below meth c s.heap [] 0 0 Q (F0 m 15 ls [.int s0]) := by
  have hx := E.1
  have hb := E.2.1
  have hts := E.2.2.1
  have hown := E.2.2.2
  intro ls s0 h hl
  unfold fr_in_b15 at h
  obtain ⟨gz, h⟩ := oif_some h
  have gr : r1 = 0 ∨ r1 = 1 := by rw [← osome1 h]; exact gz
  refine lv_to (osome1 h) ?_
  exact kr15 _ gr
def fr_in_b14    : Option (Int32) := fr_in_b15 0
set_option maxHeartbeats 4000000 in
set_option maxRecDepth 100000 in
theorem tr_in_b14 {p : Program} {l : Launch} {e : Env} {s : State} {m : MethodId} {args : Array Value} {below : List Frame} {meth : Method} {c : Code} {Q : State → Prop} {r1 : Int32} (E : p.tables.exec = Jvm.exec ∧ c.code = cX12_in ∧ (∀ w ∈ (Cond.code yX12_in cX12_in 3 (some .boolean) :: wsM), w.before args s = true) ∧ s.vm.findClass RX12 = some m.cls) (hml : c.maxLocals = 3) (kr15 : ∀ (ls : Array Slot), (r1 = 0 ∨ r1 = 1) → W p l e { frames := 1, cells := 0, slots := 0, locals := 0 } s m args below meth c s.heap [] 0 0 Q (F0 m 15 ls [.int r1])) : ∀ (ls : Array Slot), fr_in_b14 = some r1 → lv_has ls 3 [] → W p l e { frames := 1, cells := 0, slots := 0, locals := 0 } s m args below meth c s.heap [] 0 0 Q (F0 m 14 ls []) := by
  have hx := E.1
  have hb := E.2.1
  have hts := E.2.2.1
  have hown := E.2.2.2
  intro ls h hl
  unfold fr_in_b14 at h
  refine lv_iconst (v := 0) hx hb dX12_in_14 (by decide) ?_
  have hl := lv_sub hl [] rfl
  exact tr_in_b15 E hml kr15 _ _ h hl
def fr_in  (a0 : Int32) (a1 : Int32) (a2 : Int32) : Option (Int32) := if a0 < a1 then (fr_in_b14) else (if a2 < a0 then (fr_in_b14) else (fr_in_b15 1))
set_option maxHeartbeats 4000000 in
set_option maxRecDepth 100000 in
theorem tr_in (l : Launch) (a0 : Int32) (a1 : Int32) (a2 : Int32) {r1 : Int32} (h : fr_in a0 a1 a2 = some r1) : Met l yX12_in (Cond.code yX12_in cX12_in 3 (some .boolean) :: wsM) { frames := 1, cells := 0, slots := 0, locals := 0 } (va_Pc [.int a0, .int a1, .int a2] (fun _ => True)) (vp_Si (fun r => r = r1)) 0 0 (fun _ => False) := by
  refine pro_in (cc := cX12_in) (maxL := 3) (ret := (some .boolean)) (by exact pn_RX12) rfl (by exact Nat.le_of_ble_eq_true rfl) (fun p e s m below meth c ls hx hb hr hts hown hlocks hml hv hl => ?_)
  have E : p.tables.exec = Jvm.exec ∧ c.code = cX12_in ∧ (∀ w ∈ (Cond.code yX12_in cX12_in 3 (some .boolean) :: wsM), w.before ([.int a0, .int a1, .int a2] : List Value).toArray s = true) ∧ s.vm.findClass RX12 = some m.cls := ⟨hx, hb, hts, hown⟩
  have hl : lv_has ls 3 [(0, .int a0), (1, .int a1), (2, .int a2)] := hl
  unfold fr_in at h
  refine lv_iload_n hx hb dX12_in_0 rfl (lv_at hl 0 rfl) ?_
  refine lv_iload_n hx hb dX12_in_1 rfl (lv_at hl 1 rfl) ?_
  refine lv_icmp_lt (tgt := 14) hx hb dX12_in_2 (by decide) (fun c2 => ?_) (fun c2 => ?_)
  · have h := oif_pos c2 h
    have hl := lv_sub hl [] rfl
    exact tr_in_b14 E hml (fun ls gz => W.zret (v := r1) hx hb hr (nar01 gz) (fun t ht hW => ⟨r1, rfl, rfl, ht⟩) (fun _ h => absurd h List.not_mem_nil) dX12_in_15) _ h hl
  · have h := oif_neg c2 h
    refine lv_iload_n hx hb dX12_in_5 rfl (lv_at hl 0 rfl) ?_
    refine lv_iload_n hx hb dX12_in_6 rfl (lv_at hl 2 rfl) ?_
    refine lv_icmp_gt (tgt := 14) hx hb dX12_in_7 (by decide) (fun c3 => ?_) (fun c3 => ?_)
    · have h := oif_pos c3 h
      have hl := lv_sub hl [] rfl
      exact tr_in_b14 E hml (fun ls gz => W.zret (v := r1) hx hb hr (nar01 gz) (fun t ht hW => ⟨r1, rfl, rfl, ht⟩) (fun _ h => absurd h List.not_mem_nil) dX12_in_15) _ h hl
    · have h := oif_neg c3 h
      refine lv_iconst (v := 1) hx hb dX12_in_10 (by decide) ?_
      refine lv_goto (tgt := 15) hx hb dX12_in_11 (by decide) ?_
      have hl := lv_sub hl [] rfl
      exact tr_in_b15 E hml (fun ls gz => W.zret (v := r1) hx hb hr (nar01 gz) (fun t ht hW => ⟨r1, rfl, rfl, ht⟩) (fun _ h => absurd h List.not_mem_nil) dX12_in_15) _ _ h hl
def fr_throwsAt (S : MS) (a0 : Int32) : Option (Int32 × MS) := elet (mi S 0 a0) fun S2 => some (0, S2)
set_option maxHeartbeats 4000000 in
set_option maxRecDepth 100000 in
theorem tr_throwsAt (l : Launch) (D : va_G) (cI cJ cZ : ClassId) (ad : Nat → Nat) (S : MS) (a0 : Int32) {r1 : Int32} {S1 : MS} (h : fr_throwsAt S a0 = some (r1, S1)) : mCi l yX12_throwsAt (Cond.code yX12_throwsAt cX12_throwsAt 2 (some .int) :: wsM) 1 0 D cI cJ cZ ad S [.int a0] (fun r S9 => r = r1 ∧ S9 = S1) := by
  intro sz
  refine pro_in (cc := cX12_throwsAt) (maxL := 2) (ret := (some .int)) (by exact pn_RX12) rfl (by exact Nat.le_of_ble_eq_true rfl) (fun p e s m below meth c ls hx hb hr hts hown hlocks hml hv hl => ?_)
  obtain ⟨hsz, hP, hK, hD0, hR⟩ := hv
  subst hsz
  have hD := hD0.self (sz := s.heap.size)
  generalize hAe : va_A (MW cI cJ cZ ad S) s.heap.size = A at hD ⊢
  have hA : ∀ q : Nat, s.heap.size ≤ q → A q := fun q h => by rw [← hAe]; exact Or.inr h
  have G : mG D cI cJ cZ ad A s.heap s.heap [] S := ⟨hP, hD, va_S.rf⟩
  have E : mE p c cX12_throwsAt s m ([.ref (ad 0), .int a0] : List Value).toArray (Cond.code yX12_throwsAt cX12_throwsAt 2 (some .int) :: wsM) D cI cJ cZ := ⟨hx, hb, hts, hown, hK, fun w h => .tail _ (iM_x h)⟩
  have hl : lv_has ls 2 [(0, .ref (ad 0)), (1, .int a0)] := hl
  unfold fr_throwsAt at h
  refine lv_aload_n hx hb dX12_throwsAt_0 rfl (lv_at hl 0 rfl) ?_
  refine lv_iload_n hx hb dX12_throwsAt_1 rfl (lv_at hl 1 rfl) ?_
  refine m_put E G 0 (by decide) (.tail _ qM_26) (mw_i0 _ _ _ _ _ a0) dX12_throwsAt_2 ⟨rfl, rfl, rfl⟩ rfl rfl (fun H locs G => ?_)
  obtain ⟨S2, eS2, h⟩ := elet_some h
  rw [← eS2] at G
  clear eS2
  refine lv_iconst (v := 0) hx hb dX12_throwsAt_5 (by decide) ?_
  exact W.iret (v := 0) hx hb hr (fun t ht hW => ⟨⟨0, S2, rfl, osome2 h, ⟨by rw [ht]; exact G.1, va_K.moved hW.alike hK, G.2.1⟩⟩, G.2.2.F ht⟩) G.2.2.2.2 dX12_throwsAt_6
def fr_four_b3  : Nat → MS → Int32 → Int32 → Option (MS)
  | 0, _, _, _ => none
  | n + 1, S, l1, l2 => if l2 < 0 then (some S) else (elet (S.1 2) fun v3 => elet (l1 >>> (l2 &&& 31)) fun v4 => elet (v4 &&& 255) fun v5 => oif (inb v3 1000 = true) <| elet (mf S 1 (upd (S.2.1 1) v3.toNatClampNeg v5)) fun S7 => elet (S7.1 2) fun v8 => elet (v8 + 1) fun v9 => elet (mi S7 2 v9) fun S10 => elet (l2 + Int32.ofInt (-8)) fun v11 => fr_four_b3 n S10 l1 v11)
set_option maxHeartbeats 4000000 in
set_option maxRecDepth 100000 in
theorem tr_four_b3 {p : Program} {l : Launch} {e : Env} {s : State} {m : MethodId} {args : Array Value} {below : List Frame} {meth : Method} {c : Code} {Q : State → Prop} {D : va_G} {A : Nat → Prop} {H0 : Heap} {cI cJ cZ : ClassId} {ad : Nat → Nat} {S1 : MS} (E : mE p c cX12_four s m args (Cond.code yX12_four cX12_four 3 none :: wsM) D cI cJ cZ) (hA : ∀ q : Nat, H0.size ≤ q → A q) (hR : sR s) (hml : c.maxLocals = 3) (kr39 : ∀ (H : Heap) (locs : List Loc) (ls : Array Slot), mG D cI cJ cZ ad A H0 H locs S1 → W p l e { frames := 1, cells := 0, slots := 0, locals := 0 } s m args below meth c H locs 0 0 Q (F0 m 39 ls [])) : ∀ n : Nat, ∀ (S : MS) (H : Heap) (locs : List Loc) (ls : Array Slot) (l1 : Int32) (l2 : Int32), fr_four_b3 n S l1 l2 = some S1 → mG D cI cJ cZ ad A H0 H locs S → lv_has ls 3 [(0, .ref (ad 0)), (1, .int l1), (2, .int l2)] → W p l e { frames := 1, cells := 0, slots := 0, locals := 0 } s m args below meth c H locs 0 0 Q (F0 m 3 ls []) := by
  have hx := E.1
  have hb := E.2.1
  have hts := E.2.2.1
  have hown := E.2.2.2.1
  have hK := E.2.2.2.2.1
  intro n
  induction n with
  | zero =>
    intro S H locs ls l1 l2 h
    have h : (none : Option (MS)) = some S1 := h
    cases h
  | succ n ih =>
    intro S H locs ls l1 l2 h G hl
    unfold fr_four_b3 at h
    refine lv_iload_n hx hb dX12_four_3 rfl (lv_at hl 2 rfl) ?_
    refine lv_if_lt (tgt := 39) hx hb dX12_four_4 (by decide) (fun c2 => ?_) (fun c2 => ?_)
    · have h := oif_pos c2 h
      rw [osome1 h] at G
      exact kr39 _ _ _ G
    · have h := oif_neg c2 h
      refine lv_aload_n hx hb dX12_four_7 rfl (lv_at hl 0 rfl) ?_
      refine m_get E G 1 (v := .ref (ad 1)) (by decide) (.tail _ qM_5) rfl dX12_four_8 rfl ?_
      refine lv_aload_n hx hb dX12_four_11 rfl (lv_at hl 0 rfl) ?_
      refine m_get E G 2 (v := .int (S.1 2)) (by decide) (.tail _ qM_30) rfl dX12_four_12 rfl ?_
      refine lv_topi (fun v3 ev3 => ?_)
      have h := elet_at ev3 h
      clear ev3
      refine lv_iload_n hx hb dX12_four_15 rfl (lv_at hl 1 rfl) ?_
      refine lv_iload_n hx hb dX12_four_16 rfl (lv_at hl 2 rfl) ?_
      refine lv_ishr hx hb dX12_four_17 ?_
      refine lv_topi (fun v4 ev4 => ?_)
      have h := elet_at ev4 h
      clear ev4
      refine lv_sipush (v := 255) hx hb dX12_four_18 (by decide) ?_
      refine lv_iand hx hb dX12_four_21 ?_
      refine lv_topi (fun v5 ev5 => ?_)
      have h := elet_at ev5 h
      clear ev5
      obtain ⟨g6, h⟩ := oif_some h
      refine m_iast E G 1 1 (k := v3.toNatClampNeg) (v := v5) rfl (fun _ => rfl) (inb_k g6).1 (inb_k g6).2 (by decide) dX12_four_22 (fun H locs G => ?_)
      obtain ⟨S7, eS7, h⟩ := elet_some h
      rw [← eS7] at G
      clear eS7
      refine lv_aload_n hx hb dX12_four_23 rfl (lv_at hl 0 rfl) ?_
      refine lv_dup hx hb dX12_four_24 rfl ?_
      refine m_get E G 2 (v := .int (S7.1 2)) (by decide) (.tail _ qM_30) rfl dX12_four_25 rfl ?_
      refine lv_topi (fun v8 ev8 => ?_)
      have h := elet_at ev8 h
      clear ev8
      refine lv_iconst (v := 1) hx hb dX12_four_28 (by decide) ?_
      refine lv_iadd hx hb dX12_four_29 ?_
      refine lv_topi (fun v9 ev9 => ?_)
      have h := elet_at ev9 h
      clear ev9
      refine m_put E G 2 (by decide) (.tail _ qM_30) (mw_i2 _ _ _ _ _ v9) dX12_four_30 ⟨rfl, rfl, rfl⟩ rfl rfl (fun H locs G => ?_)
      obtain ⟨S10, eS10, h⟩ := elet_some h
      rw [← eS10] at G
      clear eS10
      obtain ⟨v11, ev11, h⟩ := elet_some h
      refine lv_iinc (v := v11) (lv' := [(2, .int v11), (0, .ref (ad 0)), (1, .int l1)]) hx hb dX12_four_33 hl (k := 2) rfl ev11.symm (by decide) rfl (fun ls hl => ?_)
      refine lv_goto (tgt := 3) hx hb dX12_four_36 (by decide) ?_
      have hl := lv_sub hl [1, 2, 0] rfl
      exact ih _ _ _ _ _ _ h G hl
def fr_four (S : MS) (a0 : Int32) : Option (MS) := fr_four_b3 16384 S a0 24
set_option maxHeartbeats 4000000 in
set_option maxRecDepth 100000 in
theorem tr_four (l : Launch) (D : va_G) (cI cJ cZ : ClassId) (ad : Nat → Nat) (S : MS) (a0 : Int32) {S1 : MS} (h : fr_four S a0 = some S1) : mCv l yX12_four (Cond.code yX12_four cX12_four 3 none :: wsM) 1 0 D cI cJ cZ ad S [.int a0] (fun S9 => S9 = S1) := by
  intro sz
  refine pro_in (cc := cX12_four) (maxL := 3) (ret := none) (by exact pn_RX12) rfl (by exact Nat.le_of_ble_eq_true rfl) (fun p e s m below meth c ls hx hb hr hts hown hlocks hml hv hl => ?_)
  obtain ⟨hsz, hP, hK, hD0, hR⟩ := hv
  subst hsz
  have hD := hD0.self (sz := s.heap.size)
  generalize hAe : va_A (MW cI cJ cZ ad S) s.heap.size = A at hD ⊢
  have hA : ∀ q : Nat, s.heap.size ≤ q → A q := fun q h => by rw [← hAe]; exact Or.inr h
  have G : mG D cI cJ cZ ad A s.heap s.heap [] S := ⟨hP, hD, va_S.rf⟩
  have E : mE p c cX12_four s m ([.ref (ad 0), .int a0] : List Value).toArray (Cond.code yX12_four cX12_four 3 none :: wsM) D cI cJ cZ := ⟨hx, hb, hts, hown, hK, fun w h => .tail _ (iM_x h)⟩
  have hl : lv_has ls 3 [(0, .ref (ad 0)), (1, .int a0)] := hl
  unfold fr_four at h
  refine lv_bipush (v := 24) hx hb dX12_four_0 (by decide) ?_
  refine lv_istore_n (lv' := [(2, .int 24), (0, .ref (ad 0)), (1, .int a0)]) hx hb dX12_four_2 rfl hl (by decide) rfl (fun ls hl => ?_)
  have hl := lv_sub hl [1, 2, 0] rfl
  exact tr_four_b3 E hA hR hml (fun H locs ls G => W.vret hx hb hr (fun t ht hW => ⟨⟨S1, rfl, rfl, ⟨by rw [ht]; exact G.1, va_K.moved hW.alike hK, G.2.1⟩⟩, G.2.2.F ht⟩) G.2.2.2.2 dX12_four_39) _ _ _ _ _ _ _ h G hl
def fr_append (S : MS) (a0 : Int32) (a1 : Int32) (a2 : Int32) (a3 : Int32) (a4 : Int32) : Option (Int32 × MS) := elet (mi S 0 0) fun S2 => elet (S2.1 2) fun v3 => elet (v3 + 20) fun v4 => if v4 ≤ 1000 then (obind (fr_four S2 a0) fun S6 => obind (fr_four S6 a1) fun S9 => obind (fr_four S9 a2) fun S12 => obind (fr_four S12 a3) fun S15 => obind (fr_four S15 a4) fun S18 => elet (S18.1 2) fun v21 => some (v21, S18)) else (some ((-1), S2))
set_option maxHeartbeats 4000000 in
set_option maxRecDepth 100000 in
theorem tr_append (l : Launch) (D : va_G) (cI cJ cZ : ClassId) (ad : Nat → Nat) (S : MS) (a0 : Int32) (a1 : Int32) (a2 : Int32) (a3 : Int32) (a4 : Int32) {r1 : Int32} {S1 : MS} (h : fr_append S a0 a1 a2 a3 a4 = some (r1, S1)) : mCi l yX12_append (Cond.code yX12_append cX12_append 6 (some .int) :: wsM) 2 22 D cI cJ cZ ad S [.int a0, .int a1, .int a2, .int a3, .int a4] (fun r S9 => r = r1 ∧ S9 = S1) := by
  intro sz
  refine pro_in (cc := cX12_append) (maxL := 6) (ret := (some .int)) (by exact pn_RX12) rfl (by exact Nat.le_of_ble_eq_true rfl) (fun p e s m below meth c ls hx hb hr hts hown hlocks hml hv hl => ?_)
  obtain ⟨hsz, hP, hK, hD0, hR⟩ := hv
  subst hsz
  have hD := hD0.self (sz := s.heap.size)
  generalize hAe : va_A (MW cI cJ cZ ad S) s.heap.size = A at hD ⊢
  have hA : ∀ q : Nat, s.heap.size ≤ q → A q := fun q h => by rw [← hAe]; exact Or.inr h
  have G : mG D cI cJ cZ ad A s.heap s.heap [] S := ⟨hP, hD, va_S.rf⟩
  have E : mE p c cX12_append s m ([.ref (ad 0), .int a0, .int a1, .int a2, .int a3, .int a4] : List Value).toArray (Cond.code yX12_append cX12_append 6 (some .int) :: wsM) D cI cJ cZ := ⟨hx, hb, hts, hown, hK, fun w h => .tail _ (iM_x h)⟩
  have hl : lv_has ls 6 [(0, .ref (ad 0)), (1, .int a0), (2, .int a1), (3, .int a2), (4, .int a3), (5, .int a4)] := hl
  unfold fr_append at h
  refine lv_aload_n hx hb dX12_append_0 rfl (lv_at hl 0 rfl) ?_
  refine lv_iconst (v := 0) hx hb dX12_append_1 (by decide) ?_
  refine m_put E G 0 (by decide) (.tail _ qM_26) (mw_i0 _ _ _ _ _ 0) dX12_append_2 ⟨rfl, rfl, rfl⟩ rfl rfl (fun H locs G => ?_)
  obtain ⟨S2, eS2, h⟩ := elet_some h
  rw [← eS2] at G
  clear eS2
  refine lv_aload_n hx hb dX12_append_5 rfl (lv_at hl 0 rfl) ?_
  refine m_get E G 2 (v := .int (S2.1 2)) (by decide) (.tail _ qM_30) rfl dX12_append_6 rfl ?_
  refine lv_topi (fun v3 ev3 => ?_)
  have h := elet_at ev3 h
  clear ev3
  refine lv_bipush (v := 20) hx hb dX12_append_9 (by decide) ?_
  refine lv_iadd hx hb dX12_append_11 ?_
  refine lv_topi (fun v4 ev4 => ?_)
  have h := elet_at ev4 h
  clear ev4
  refine lv_sipush (v := 1000) hx hb dX12_append_12 (by decide) ?_
  refine lv_icmp_le (tgt := 20) hx hb dX12_append_15 (by decide) (fun c5 => ?_) (fun c5 => ?_)
  · have h := oif_pos c5 h
    refine lv_aload_n hx hb dX12_append_20 rfl (lv_at hl 0 rfl) ?_
    refine lv_iload_n hx hb dX12_append_21 rfl (lv_at hl 1 rfl) ?_
    obtain ⟨S6, eS6, h⟩ := obind_some h
    refine m_callv (As := [.int a0]) (rest := []) E G hA hR hml (tr_four l D cI cJ cZ ad S2 a0 eS6) (cwV 1 hts (gmV qM_32 qM_33 qM_34 qM_35 qM_29) rfl rfl rfl (by decide +kernel) ⟨Nat.le_of_ble_eq_true rfl, Nat.le_of_ble_eq_true rfl⟩) rfl hl.1 rfl (lv_room (Nat.le_of_ble_eq_true rfl)) dX12_append_22 ⟨Nat.zero_le _, Nat.zero_le _⟩ (fun S8 H locs hq G => ?_)
    rw [hq] at G
    clear hq eS6
    refine lv_aload_n hx hb dX12_append_25 rfl (lv_at hl 0 rfl) ?_
    refine lv_iload_n hx hb dX12_append_26 rfl (lv_at hl 2 rfl) ?_
    obtain ⟨S9, eS9, h⟩ := obind_some h
    refine m_callv (As := [.int a1]) (rest := []) E G hA hR hml (tr_four l D cI cJ cZ ad S6 a1 eS9) (cwV 1 hts (gmV qM_32 qM_33 qM_34 qM_35 qM_29) rfl rfl rfl (by decide +kernel) ⟨Nat.le_of_ble_eq_true rfl, Nat.le_of_ble_eq_true rfl⟩) rfl hl.1 rfl (lv_room (Nat.le_of_ble_eq_true rfl)) dX12_append_27 ⟨Nat.zero_le _, Nat.zero_le _⟩ (fun S11 H locs hq G => ?_)
    rw [hq] at G
    clear hq eS9
    refine lv_aload_n hx hb dX12_append_30 rfl (lv_at hl 0 rfl) ?_
    refine lv_iload_n hx hb dX12_append_31 rfl (lv_at hl 3 rfl) ?_
    obtain ⟨S12, eS12, h⟩ := obind_some h
    refine m_callv (As := [.int a2]) (rest := []) E G hA hR hml (tr_four l D cI cJ cZ ad S9 a2 eS12) (cwV 1 hts (gmV qM_32 qM_33 qM_34 qM_35 qM_29) rfl rfl rfl (by decide +kernel) ⟨Nat.le_of_ble_eq_true rfl, Nat.le_of_ble_eq_true rfl⟩) rfl hl.1 rfl (lv_room (Nat.le_of_ble_eq_true rfl)) dX12_append_32 ⟨Nat.zero_le _, Nat.zero_le _⟩ (fun S14 H locs hq G => ?_)
    rw [hq] at G
    clear hq eS12
    refine lv_aload_n hx hb dX12_append_35 rfl (lv_at hl 0 rfl) ?_
    refine lv_iload hx hb dX12_append_36 (lv_at hl 4 rfl) ?_
    obtain ⟨S15, eS15, h⟩ := obind_some h
    refine m_callv (As := [.int a3]) (rest := []) E G hA hR hml (tr_four l D cI cJ cZ ad S12 a3 eS15) (cwV 1 hts (gmV qM_32 qM_33 qM_34 qM_35 qM_29) rfl rfl rfl (by decide +kernel) ⟨Nat.le_of_ble_eq_true rfl, Nat.le_of_ble_eq_true rfl⟩) rfl hl.1 rfl (lv_room (Nat.le_of_ble_eq_true rfl)) dX12_append_38 ⟨Nat.zero_le _, Nat.zero_le _⟩ (fun S17 H locs hq G => ?_)
    rw [hq] at G
    clear hq eS15
    refine lv_aload_n hx hb dX12_append_41 rfl (lv_at hl 0 rfl) ?_
    refine lv_iload hx hb dX12_append_42 (lv_at hl 5 rfl) ?_
    obtain ⟨S18, eS18, h⟩ := obind_some h
    refine m_callv (As := [.int a4]) (rest := []) E G hA hR hml (tr_four l D cI cJ cZ ad S15 a4 eS18) (cwV 1 hts (gmV qM_32 qM_33 qM_34 qM_35 qM_29) rfl rfl rfl (by decide +kernel) ⟨Nat.le_of_ble_eq_true rfl, Nat.le_of_ble_eq_true rfl⟩) rfl hl.1 rfl (lv_room (Nat.le_of_ble_eq_true rfl)) dX12_append_44 ⟨Nat.zero_le _, Nat.zero_le _⟩ (fun S20 H locs hq G => ?_)
    rw [hq] at G
    clear hq eS18
    refine lv_aload_n hx hb dX12_append_47 rfl (lv_at hl 0 rfl) ?_
    refine m_get E G 2 (v := .int (S18.1 2)) (by decide) (.tail _ qM_30) rfl dX12_append_48 rfl ?_
    refine lv_topi (fun v21 ev21 => ?_)
    have h := elet_at ev21 h
    clear ev21
    exact W.iret (v := v21) hx hb hr (fun t ht hW => ⟨⟨v21, S18, rfl, osome2 h, ⟨by rw [ht]; exact G.1, va_K.moved hW.alike hK, G.2.1⟩⟩, G.2.2.F ht⟩) G.2.2.2.2 dX12_append_51
  · have h := oif_neg c5 h
    refine lv_iconst (v := (-1)) hx hb dX12_append_18 (by decide) ?_
    exact W.iret (v := (-1)) hx hb hr (fun t ht hW => ⟨⟨(-1), S2, rfl, osome2 h, ⟨by rw [ht]; exact G.1, va_K.moved hW.alike hK, G.2.1⟩⟩, G.2.2.F ht⟩) G.2.2.2.2 dX12_append_19
def fr_buffered (S : MS)  : Option (Int32 × MS) := elet (mi S 0 0) fun S2 => elet (S2.1 2) fun v3 => some (v3, S2)
set_option maxHeartbeats 4000000 in
set_option maxRecDepth 100000 in
theorem tr_buffered (l : Launch) (D : va_G) (cI cJ cZ : ClassId) (ad : Nat → Nat) (S : MS)  {r1 : Int32} {S1 : MS} (h : fr_buffered S = some (r1, S1)) : mCi l yX12_buffered (Cond.code yX12_buffered cX12_buffered 1 (some .int) :: wsM) 1 0 D cI cJ cZ ad S [] (fun r S9 => r = r1 ∧ S9 = S1) := by
  intro sz
  refine pro_in (cc := cX12_buffered) (maxL := 1) (ret := (some .int)) (by exact pn_RX12) rfl (by exact Nat.le_of_ble_eq_true rfl) (fun p e s m below meth c ls hx hb hr hts hown hlocks hml hv hl => ?_)
  obtain ⟨hsz, hP, hK, hD0, hR⟩ := hv
  subst hsz
  have hD := hD0.self (sz := s.heap.size)
  generalize hAe : va_A (MW cI cJ cZ ad S) s.heap.size = A at hD ⊢
  have hA : ∀ q : Nat, s.heap.size ≤ q → A q := fun q h => by rw [← hAe]; exact Or.inr h
  have G : mG D cI cJ cZ ad A s.heap s.heap [] S := ⟨hP, hD, va_S.rf⟩
  have E : mE p c cX12_buffered s m ([.ref (ad 0)] : List Value).toArray (Cond.code yX12_buffered cX12_buffered 1 (some .int) :: wsM) D cI cJ cZ := ⟨hx, hb, hts, hown, hK, fun w h => .tail _ (iM_x h)⟩
  have hl : lv_has ls 1 [(0, .ref (ad 0))] := hl
  unfold fr_buffered at h
  refine lv_aload_n hx hb dX12_buffered_0 rfl (lv_at hl 0 rfl) ?_
  refine lv_iconst (v := 0) hx hb dX12_buffered_1 (by decide) ?_
  refine m_put E G 0 (by decide) (.tail _ qM_26) (mw_i0 _ _ _ _ _ 0) dX12_buffered_2 ⟨rfl, rfl, rfl⟩ rfl rfl (fun H locs G => ?_)
  obtain ⟨S2, eS2, h⟩ := elet_some h
  rw [← eS2] at G
  clear eS2
  refine lv_aload_n hx hb dX12_buffered_5 rfl (lv_at hl 0 rfl) ?_
  refine m_get E G 2 (v := .int (S2.1 2)) (by decide) (.tail _ qM_30) rfl dX12_buffered_6 rfl ?_
  refine lv_topi (fun v3 ev3 => ?_)
  have h := elet_at ev3 h
  clear ev3
  exact W.iret (v := v3) hx hb hr (fun t ht hW => ⟨⟨v3, S2, rfl, osome2 h, ⟨by rw [ht]; exact G.1, va_K.moved hW.alike hK, G.2.1⟩⟩, G.2.2.F ht⟩) G.2.2.2.2 dX12_buffered_9
def fr_parseError (S : MS)  : Option (Int32 × MS) := elet (mi S 0 0) fun S2 => elet (S2.1 5) fun v3 => some (v3, S2)
set_option maxHeartbeats 4000000 in
set_option maxRecDepth 100000 in
theorem tr_parseError (l : Launch) (D : va_G) (cI cJ cZ : ClassId) (ad : Nat → Nat) (S : MS)  {r1 : Int32} {S1 : MS} (h : fr_parseError S = some (r1, S1)) : mCi l yX12_parseError (Cond.code yX12_parseError cX12_parseError 1 (some .int) :: wsM) 1 0 D cI cJ cZ ad S [] (fun r S9 => r = r1 ∧ S9 = S1) := by
  intro sz
  refine pro_in (cc := cX12_parseError) (maxL := 1) (ret := (some .int)) (by exact pn_RX12) rfl (by exact Nat.le_of_ble_eq_true rfl) (fun p e s m below meth c ls hx hb hr hts hown hlocks hml hv hl => ?_)
  obtain ⟨hsz, hP, hK, hD0, hR⟩ := hv
  subst hsz
  have hD := hD0.self (sz := s.heap.size)
  generalize hAe : va_A (MW cI cJ cZ ad S) s.heap.size = A at hD ⊢
  have hA : ∀ q : Nat, s.heap.size ≤ q → A q := fun q h => by rw [← hAe]; exact Or.inr h
  have G : mG D cI cJ cZ ad A s.heap s.heap [] S := ⟨hP, hD, va_S.rf⟩
  have E : mE p c cX12_parseError s m ([.ref (ad 0)] : List Value).toArray (Cond.code yX12_parseError cX12_parseError 1 (some .int) :: wsM) D cI cJ cZ := ⟨hx, hb, hts, hown, hK, fun w h => .tail _ (iM_x h)⟩
  have hl : lv_has ls 1 [(0, .ref (ad 0))] := hl
  unfold fr_parseError at h
  refine lv_aload_n hx hb dX12_parseError_0 rfl (lv_at hl 0 rfl) ?_
  refine lv_iconst (v := 0) hx hb dX12_parseError_1 (by decide) ?_
  refine m_put E G 0 (by decide) (.tail _ qM_26) (mw_i0 _ _ _ _ _ 0) dX12_parseError_2 ⟨rfl, rfl, rfl⟩ rfl rfl (fun H locs G => ?_)
  obtain ⟨S2, eS2, h⟩ := elet_some h
  rw [← eS2] at G
  clear eS2
  refine lv_aload_n hx hb dX12_parseError_5 rfl (lv_at hl 0 rfl) ?_
  refine m_get E G 5 (v := .int (S2.1 5)) (by decide) (.tail _ qM_38) rfl dX12_parseError_6 rfl ?_
  refine lv_topi (fun v3 ev3 => ?_)
  have h := elet_at ev3 h
  clear ev3
  exact W.iret (v := v3) hx hb hr (fun t ht hW => ⟨⟨v3, S2, rfl, osome2 h, ⟨by rw [ht]; exact G.1, va_K.moved hW.alike hK, G.2.1⟩⟩, G.2.2.F ht⟩) G.2.2.2.2 dX12_parseError_9
def fr_errorPosition (S : MS)  : Option (Int32 × MS) := elet (mi S 0 0) fun S2 => elet (S2.1 6) fun v3 => some (v3, S2)
set_option maxHeartbeats 4000000 in
set_option maxRecDepth 100000 in
theorem tr_errorPosition (l : Launch) (D : va_G) (cI cJ cZ : ClassId) (ad : Nat → Nat) (S : MS)  {r1 : Int32} {S1 : MS} (h : fr_errorPosition S = some (r1, S1)) : mCi l yX12_errorPosition (Cond.code yX12_errorPosition cX12_errorPosition 1 (some .int) :: wsM) 1 0 D cI cJ cZ ad S [] (fun r S9 => r = r1 ∧ S9 = S1) := by
  intro sz
  refine pro_in (cc := cX12_errorPosition) (maxL := 1) (ret := (some .int)) (by exact pn_RX12) rfl (by exact Nat.le_of_ble_eq_true rfl) (fun p e s m below meth c ls hx hb hr hts hown hlocks hml hv hl => ?_)
  obtain ⟨hsz, hP, hK, hD0, hR⟩ := hv
  subst hsz
  have hD := hD0.self (sz := s.heap.size)
  generalize hAe : va_A (MW cI cJ cZ ad S) s.heap.size = A at hD ⊢
  have hA : ∀ q : Nat, s.heap.size ≤ q → A q := fun q h => by rw [← hAe]; exact Or.inr h
  have G : mG D cI cJ cZ ad A s.heap s.heap [] S := ⟨hP, hD, va_S.rf⟩
  have E : mE p c cX12_errorPosition s m ([.ref (ad 0)] : List Value).toArray (Cond.code yX12_errorPosition cX12_errorPosition 1 (some .int) :: wsM) D cI cJ cZ := ⟨hx, hb, hts, hown, hK, fun w h => .tail _ (iM_x h)⟩
  have hl : lv_has ls 1 [(0, .ref (ad 0))] := hl
  unfold fr_errorPosition at h
  refine lv_aload_n hx hb dX12_errorPosition_0 rfl (lv_at hl 0 rfl) ?_
  refine lv_iconst (v := 0) hx hb dX12_errorPosition_1 (by decide) ?_
  refine m_put E G 0 (by decide) (.tail _ qM_26) (mw_i0 _ _ _ _ _ 0) dX12_errorPosition_2 ⟨rfl, rfl, rfl⟩ rfl rfl (fun H locs G => ?_)
  obtain ⟨S2, eS2, h⟩ := elet_some h
  rw [← eS2] at G
  clear eS2
  refine lv_aload_n hx hb dX12_errorPosition_5 rfl (lv_at hl 0 rfl) ?_
  refine m_get E G 6 (v := .int (S2.1 6)) (by decide) (.tail _ qM_6) rfl dX12_errorPosition_6 rfl ?_
  refine lv_topi (fun v3 ev3 => ?_)
  have h := elet_at ev3 h
  clear ev3
  exact W.iret (v := v3) hx hb hr (fun t ht hW => ⟨⟨v3, S2, rfl, osome2 h, ⟨by rw [ht]; exact G.1, va_K.moved hW.alike hK, G.2.1⟩⟩, G.2.2.F ht⟩) G.2.2.2.2 dX12_errorPosition_9
def fr_byteAt_b18  (S : MS) (s0 : Int32) : Option (Int32 × MS) := some (s0, S)
set_option maxHeartbeats 4000000 in
set_option maxRecDepth 100000 in
theorem tr_byteAt_b18 {p : Program} {l : Launch} {e : Env} {s : State} {m : MethodId} {args : Array Value} {below : List Frame} {meth : Method} {c : Code} {Q : State → Prop} {D : va_G} {A : Nat → Prop} {H0 : Heap} {cI cJ cZ : ClassId} {ad : Nat → Nat} {r1 : Int32} {S1 : MS} (E : mE p c cX12_byteAt s m args (Cond.code yX12_byteAt cX12_byteAt 2 (some .int) :: wsM) D cI cJ cZ) (hA : ∀ q : Nat, H0.size ≤ q → A q) (hR : sR s) (hml : c.maxLocals = 2) (kr18 : ∀ (H : Heap) (locs : List Loc) (ls : Array Slot), mG D cI cJ cZ ad A H0 H locs S1 → W p l e { frames := 1, cells := 0, slots := 0, locals := 0 } s m args below meth c H locs 0 0 Q (F0 m 18 ls [.int r1])) : ∀ (S : MS) (H : Heap) (locs : List Loc) (ls : Array Slot) (s0 : Int32), fr_byteAt_b18 S s0 = some (r1, S1) → mG D cI cJ cZ ad A H0 H locs S → lv_has ls 2 [] → W p l e { frames := 1, cells := 0, slots := 0, locals := 0 } s m args below meth c H locs 0 0 Q (F0 m 18 ls [.int s0]) := by
  have hx := E.1
  have hb := E.2.1
  have hts := E.2.2.1
  have hown := E.2.2.2.1
  have hK := E.2.2.2.2.1
  intro S H locs ls s0 h G hl
  unfold fr_byteAt_b18 at h
  rw [(osome2 h).2] at G
  refine lv_to (osome2 h).1 ?_
  exact kr18 _ _ _ G
def fr_byteAt (S : MS) (a0 : Int32) : Option (Int32 × MS) := elet (S.1 3) fun v2 => if v2 ≤ a0 then (fr_byteAt_b18 S (-1)) else (oif (inb a0 1000 = true) <| elet (S.2.1 1 a0.toNatClampNeg) fun v5 => fr_byteAt_b18 S v5)
set_option maxHeartbeats 4000000 in
set_option maxRecDepth 100000 in
theorem tr_byteAt (l : Launch) (D : va_G) (cI cJ cZ : ClassId) (ad : Nat → Nat) (S : MS) (a0 : Int32) {r1 : Int32} {S1 : MS} (h : fr_byteAt S a0 = some (r1, S1)) : mCi l yX12_byteAt (Cond.code yX12_byteAt cX12_byteAt 2 (some .int) :: wsM) 1 0 D cI cJ cZ ad S [.int a0] (fun r S9 => r = r1 ∧ S9 = S1) := by
  intro sz
  refine pro_in (cc := cX12_byteAt) (maxL := 2) (ret := (some .int)) (by exact pn_RX12) rfl (by exact Nat.le_of_ble_eq_true rfl) (fun p e s m below meth c ls hx hb hr hts hown hlocks hml hv hl => ?_)
  obtain ⟨hsz, hP, hK, hD0, hR⟩ := hv
  subst hsz
  have hD := hD0.self (sz := s.heap.size)
  generalize hAe : va_A (MW cI cJ cZ ad S) s.heap.size = A at hD ⊢
  have hA : ∀ q : Nat, s.heap.size ≤ q → A q := fun q h => by rw [← hAe]; exact Or.inr h
  have G : mG D cI cJ cZ ad A s.heap s.heap [] S := ⟨hP, hD, va_S.rf⟩
  have E : mE p c cX12_byteAt s m ([.ref (ad 0), .int a0] : List Value).toArray (Cond.code yX12_byteAt cX12_byteAt 2 (some .int) :: wsM) D cI cJ cZ := ⟨hx, hb, hts, hown, hK, fun w h => .tail _ (iM_x h)⟩
  have hl : lv_has ls 2 [(0, .ref (ad 0)), (1, .int a0)] := hl
  unfold fr_byteAt at h
  refine lv_iload_n hx hb dX12_byteAt_0 rfl (lv_at hl 1 rfl) ?_
  refine lv_aload_n hx hb dX12_byteAt_1 rfl (lv_at hl 0 rfl) ?_
  refine m_get E G 3 (v := .int (S.1 3)) (by decide) (.tail _ qM_41) rfl dX12_byteAt_2 rfl ?_
  refine lv_topi (fun v2 ev2 => ?_)
  have h := elet_at ev2 h
  clear ev2
  refine lv_icmp_ge (tgt := 17) hx hb dX12_byteAt_5 (by decide) (fun c3 => ?_) (fun c3 => ?_)
  · have h := oif_pos c3 h
    refine lv_iconst (v := (-1)) hx hb dX12_byteAt_17 (by decide) ?_
    have hl := lv_sub hl [] rfl
    exact tr_byteAt_b18 E hA hR hml (fun H locs ls G => W.iret (v := r1) hx hb hr (fun t ht hW => ⟨⟨r1, S1, rfl, ⟨rfl, rfl⟩, ⟨by rw [ht]; exact G.1, va_K.moved hW.alike hK, G.2.1⟩⟩, G.2.2.F ht⟩) G.2.2.2.2 dX12_byteAt_18) _ _ _ _ _ h G hl
  · have h := oif_neg c3 h
    refine lv_aload_n hx hb dX12_byteAt_8 rfl (lv_at hl 0 rfl) ?_
    refine m_get E G 1 (v := .ref (ad 1)) (by decide) (.tail _ qM_5) rfl dX12_byteAt_9 rfl ?_
    refine lv_iload_n hx hb dX12_byteAt_12 rfl (lv_at hl 1 rfl) ?_
    obtain ⟨g4, h⟩ := oif_some h
    refine m_iald E G 1 1 (n := 1000) (k := a0.toNatClampNeg) rfl (inb_k g4).1 (inb_k g4).2 (by decide) dX12_byteAt_13 ?_
    refine lv_topi (fun v5 ev5 => ?_)
    have h := elet_at ev5 h
    clear ev5
    refine lv_goto (tgt := 18) hx hb dX12_byteAt_14 (by decide) ?_
    have hl := lv_sub hl [] rfl
    exact tr_byteAt_b18 E hA hR hml (fun H locs ls G => W.iret (v := r1) hx hb hr (fun t ht hW => ⟨⟨r1, S1, rfl, ⟨rfl, rfl⟩, ⟨by rw [ht]; exact G.1, va_K.moved hW.alike hK, G.2.1⟩⟩, G.2.2.F ht⟩) G.2.2.2.2 dX12_byteAt_18) _ _ _ _ _ h G hl
def fr_faults (S : MS) (a0 : Int32) : Option (MS) := elet (S.1 5) fun v2 => if v2 ≤ 0 then (elet (mi S 5 a0) fun S4 => elet (S4.1 8) fun v5 => elet (mi S4 6 v5) fun S6 => some S6) else (some S)
set_option maxHeartbeats 4000000 in
set_option maxRecDepth 100000 in
theorem tr_faults (l : Launch) (D : va_G) (cI cJ cZ : ClassId) (ad : Nat → Nat) (S : MS) (a0 : Int32) {S1 : MS} (h : fr_faults S a0 = some S1) : mCv l yX12_faults (Cond.code yX12_faults cX12_faults 2 none :: wsM) 1 0 D cI cJ cZ ad S [.int a0] (fun S9 => S9 = S1) := by
  intro sz
  refine pro_in (cc := cX12_faults) (maxL := 2) (ret := none) (by exact pn_RX12) rfl (by exact Nat.le_of_ble_eq_true rfl) (fun p e s m below meth c ls hx hb hr hts hown hlocks hml hv hl => ?_)
  obtain ⟨hsz, hP, hK, hD0, hR⟩ := hv
  subst hsz
  have hD := hD0.self (sz := s.heap.size)
  generalize hAe : va_A (MW cI cJ cZ ad S) s.heap.size = A at hD ⊢
  have hA : ∀ q : Nat, s.heap.size ≤ q → A q := fun q h => by rw [← hAe]; exact Or.inr h
  have G : mG D cI cJ cZ ad A s.heap s.heap [] S := ⟨hP, hD, va_S.rf⟩
  have E : mE p c cX12_faults s m ([.ref (ad 0), .int a0] : List Value).toArray (Cond.code yX12_faults cX12_faults 2 none :: wsM) D cI cJ cZ := ⟨hx, hb, hts, hown, hK, fun w h => .tail _ (iM_x h)⟩
  have hl : lv_has ls 2 [(0, .ref (ad 0)), (1, .int a0)] := hl
  unfold fr_faults at h
  refine lv_aload_n hx hb dX12_faults_0 rfl (lv_at hl 0 rfl) ?_
  refine m_get E G 5 (v := .int (S.1 5)) (by decide) (.tail _ qM_38) rfl dX12_faults_1 rfl ?_
  refine lv_topi (fun v2 ev2 => ?_)
  have h := elet_at ev2 h
  clear ev2
  refine lv_if_le (tgt := 8) hx hb dX12_faults_4 (by decide) (fun c3 => ?_) (fun c3 => ?_)
  · have h := oif_pos c3 h
    refine lv_aload_n hx hb dX12_faults_8 rfl (lv_at hl 0 rfl) ?_
    refine lv_iload_n hx hb dX12_faults_9 rfl (lv_at hl 1 rfl) ?_
    refine m_put E G 5 (by decide) (.tail _ qM_38) (mw_i5 _ _ _ _ _ a0) dX12_faults_10 ⟨rfl, rfl, rfl⟩ rfl rfl (fun H locs G => ?_)
    obtain ⟨S4, eS4, h⟩ := elet_some h
    rw [← eS4] at G
    clear eS4
    refine lv_aload_n hx hb dX12_faults_13 rfl (lv_at hl 0 rfl) ?_
    refine lv_aload_n hx hb dX12_faults_14 rfl (lv_at hl 0 rfl) ?_
    refine m_get E G 8 (v := .int (S4.1 8)) (by decide) (.tail _ qM_43) rfl dX12_faults_15 rfl ?_
    refine lv_topi (fun v5 ev5 => ?_)
    have h := elet_at ev5 h
    clear ev5
    refine m_put E G 6 (by decide) (.tail _ qM_6) (mw_i6 _ _ _ _ _ v5) dX12_faults_18 ⟨rfl, rfl, rfl⟩ rfl rfl (fun H locs G => ?_)
    obtain ⟨S6, eS6, h⟩ := elet_some h
    rw [← eS6] at G
    clear eS6
    exact W.vret hx hb hr (fun t ht hW => ⟨⟨S6, rfl, osome1 h, ⟨by rw [ht]; exact G.1, va_K.moved hW.alike hK, G.2.1⟩⟩, G.2.2.F ht⟩) G.2.2.2.2 dX12_faults_21
  · have h := oif_neg c3 h
    exact W.vret hx hb hr (fun t ht hW => ⟨⟨S, rfl, osome1 h, ⟨by rw [ht]; exact G.1, va_K.moved hW.alike hK, G.2.1⟩⟩, G.2.2.F ht⟩) G.2.2.2.2 dX12_faults_7
def fr_isSign_b47   (s0 : Int32) : Option (Int32) := oif (s0 = 0 ∨ s0 = 1) <| some s0
set_option maxHeartbeats 4000000 in
set_option maxRecDepth 100000 in
theorem tr_isSign_b47 {p : Program} {l : Launch} {e : Env} {s : State} {m : MethodId} {args : Array Value} {below : List Frame} {meth : Method} {c : Code} {Q : State → Prop} {r1 : Int32} (E : p.tables.exec = Jvm.exec ∧ c.code = cX12_isSign ∧ (∀ w ∈ (Cond.code yX12_isSign cX12_isSign 1 (some .boolean) :: wsM), w.before args s = true) ∧ s.vm.findClass RX12 = some m.cls) (hml : c.maxLocals = 1) (kr47 : ∀ (ls : Array Slot), (r1 = 0 ∨ r1 = 1) → W p l e { frames := 1, cells := 0, slots := 0, locals := 0 } s m args below meth c s.heap [] 0 0 Q (F0 m 47 ls [.int r1])) : ∀ (ls : Array Slot) (s0 : Int32), fr_isSign_b47 s0 = some r1 → lv_has ls 1 [] → W p l e { frames := 1, cells := 0, slots := 0, locals := 0 } s m args below meth c s.heap [] 0 0 Q (F0 m 47 ls [.int s0]) := by
  have hx := E.1
  have hb := E.2.1
  have hts := E.2.2.1
  have hown := E.2.2.2
  intro ls s0 h hl
  unfold fr_isSign_b47 at h
  obtain ⟨gz, h⟩ := oif_some h
  have gr : r1 = 0 ∨ r1 = 1 := by rw [← osome1 h]; exact gz
  refine lv_to (osome1 h) ?_
  exact kr47 _ gr
def fr_isSign_b42    : Option (Int32) := fr_isSign_b47 1
set_option maxHeartbeats 4000000 in
set_option maxRecDepth 100000 in
theorem tr_isSign_b42 {p : Program} {l : Launch} {e : Env} {s : State} {m : MethodId} {args : Array Value} {below : List Frame} {meth : Method} {c : Code} {Q : State → Prop} {r1 : Int32} (E : p.tables.exec = Jvm.exec ∧ c.code = cX12_isSign ∧ (∀ w ∈ (Cond.code yX12_isSign cX12_isSign 1 (some .boolean) :: wsM), w.before args s = true) ∧ s.vm.findClass RX12 = some m.cls) (hml : c.maxLocals = 1) (kr47 : ∀ (ls : Array Slot), (r1 = 0 ∨ r1 = 1) → W p l e { frames := 1, cells := 0, slots := 0, locals := 0 } s m args below meth c s.heap [] 0 0 Q (F0 m 47 ls [.int r1])) : ∀ (ls : Array Slot), fr_isSign_b42 = some r1 → lv_has ls 1 [] → W p l e { frames := 1, cells := 0, slots := 0, locals := 0 } s m args below meth c s.heap [] 0 0 Q (F0 m 42 ls []) := by
  have hx := E.1
  have hb := E.2.1
  have hts := E.2.2.1
  have hown := E.2.2.2
  intro ls h hl
  unfold fr_isSign_b42 at h
  refine lv_iconst (v := 1) hx hb dX12_isSign_42 (by decide) ?_
  refine lv_goto (tgt := 47) hx hb dX12_isSign_43 (by decide) ?_
  have hl := lv_sub hl [] rfl
  exact tr_isSign_b47 E hml kr47 _ _ h hl
def fr_isSign  (a0 : Int32) : Option (Int32) := if a0 = 59 then (fr_isSign_b42) else (if a0 = 40 then (fr_isSign_b42) else (if a0 = 41 then (fr_isSign_b42) else (if a0 = 43 then (fr_isSign_b42) else (if a0 = 45 then (fr_isSign_b42) else (if a0 = 42 then (fr_isSign_b42) else (if a0 = 47 then (fr_isSign_b42) else (fr_isSign_b47 0)))))))
set_option maxHeartbeats 4000000 in
set_option maxRecDepth 100000 in
theorem tr_isSign (l : Launch) (a0 : Int32) {r1 : Int32} (h : fr_isSign a0 = some r1) : Met l yX12_isSign (Cond.code yX12_isSign cX12_isSign 1 (some .boolean) :: wsM) { frames := 1, cells := 0, slots := 0, locals := 0 } (va_Pc [.int a0] (fun _ => True)) (vp_Si (fun r => r = r1)) 0 0 (fun _ => False) := by
  refine pro_in (cc := cX12_isSign) (maxL := 1) (ret := (some .boolean)) (by exact pn_RX12) rfl (by exact Nat.le_of_ble_eq_true rfl) (fun p e s m below meth c ls hx hb hr hts hown hlocks hml hv hl => ?_)
  have E : p.tables.exec = Jvm.exec ∧ c.code = cX12_isSign ∧ (∀ w ∈ (Cond.code yX12_isSign cX12_isSign 1 (some .boolean) :: wsM), w.before ([.int a0] : List Value).toArray s = true) ∧ s.vm.findClass RX12 = some m.cls := ⟨hx, hb, hts, hown⟩
  have hl : lv_has ls 1 [(0, .int a0)] := hl
  unfold fr_isSign at h
  refine lv_iload_n hx hb dX12_isSign_0 rfl (lv_at hl 0 rfl) ?_
  refine lv_bipush (v := 59) hx hb dX12_isSign_1 (by decide) ?_
  refine lv_icmp_eq (tgt := 42) hx hb dX12_isSign_3 (by decide) (fun c2 => ?_) (fun c2 => ?_)
  · have h := oif_pos c2 h
    have hl := lv_sub hl [] rfl
    exact tr_isSign_b42 E hml (fun ls gz => W.zret (v := r1) hx hb hr (nar01 gz) (fun t ht hW => ⟨r1, rfl, rfl, ht⟩) (fun _ h => absurd h List.not_mem_nil) dX12_isSign_47) _ h hl
  · have h := oif_neg c2 h
    refine lv_iload_n hx hb dX12_isSign_6 rfl (lv_at hl 0 rfl) ?_
    refine lv_bipush (v := 40) hx hb dX12_isSign_7 (by decide) ?_
    refine lv_icmp_eq (tgt := 42) hx hb dX12_isSign_9 (by decide) (fun c3 => ?_) (fun c3 => ?_)
    · have h := oif_pos c3 h
      have hl := lv_sub hl [] rfl
      exact tr_isSign_b42 E hml (fun ls gz => W.zret (v := r1) hx hb hr (nar01 gz) (fun t ht hW => ⟨r1, rfl, rfl, ht⟩) (fun _ h => absurd h List.not_mem_nil) dX12_isSign_47) _ h hl
    · have h := oif_neg c3 h
      refine lv_iload_n hx hb dX12_isSign_12 rfl (lv_at hl 0 rfl) ?_
      refine lv_bipush (v := 41) hx hb dX12_isSign_13 (by decide) ?_
      refine lv_icmp_eq (tgt := 42) hx hb dX12_isSign_15 (by decide) (fun c4 => ?_) (fun c4 => ?_)
      · have h := oif_pos c4 h
        have hl := lv_sub hl [] rfl
        exact tr_isSign_b42 E hml (fun ls gz => W.zret (v := r1) hx hb hr (nar01 gz) (fun t ht hW => ⟨r1, rfl, rfl, ht⟩) (fun _ h => absurd h List.not_mem_nil) dX12_isSign_47) _ h hl
      · have h := oif_neg c4 h
        refine lv_iload_n hx hb dX12_isSign_18 rfl (lv_at hl 0 rfl) ?_
        refine lv_bipush (v := 43) hx hb dX12_isSign_19 (by decide) ?_
        refine lv_icmp_eq (tgt := 42) hx hb dX12_isSign_21 (by decide) (fun c5 => ?_) (fun c5 => ?_)
        · have h := oif_pos c5 h
          have hl := lv_sub hl [] rfl
          exact tr_isSign_b42 E hml (fun ls gz => W.zret (v := r1) hx hb hr (nar01 gz) (fun t ht hW => ⟨r1, rfl, rfl, ht⟩) (fun _ h => absurd h List.not_mem_nil) dX12_isSign_47) _ h hl
        · have h := oif_neg c5 h
          refine lv_iload_n hx hb dX12_isSign_24 rfl (lv_at hl 0 rfl) ?_
          refine lv_bipush (v := 45) hx hb dX12_isSign_25 (by decide) ?_
          refine lv_icmp_eq (tgt := 42) hx hb dX12_isSign_27 (by decide) (fun c6 => ?_) (fun c6 => ?_)
          · have h := oif_pos c6 h
            have hl := lv_sub hl [] rfl
            exact tr_isSign_b42 E hml (fun ls gz => W.zret (v := r1) hx hb hr (nar01 gz) (fun t ht hW => ⟨r1, rfl, rfl, ht⟩) (fun _ h => absurd h List.not_mem_nil) dX12_isSign_47) _ h hl
          · have h := oif_neg c6 h
            refine lv_iload_n hx hb dX12_isSign_30 rfl (lv_at hl 0 rfl) ?_
            refine lv_bipush (v := 42) hx hb dX12_isSign_31 (by decide) ?_
            refine lv_icmp_eq (tgt := 42) hx hb dX12_isSign_33 (by decide) (fun c7 => ?_) (fun c7 => ?_)
            · have h := oif_pos c7 h
              have hl := lv_sub hl [] rfl
              exact tr_isSign_b42 E hml (fun ls gz => W.zret (v := r1) hx hb hr (nar01 gz) (fun t ht hW => ⟨r1, rfl, rfl, ht⟩) (fun _ h => absurd h List.not_mem_nil) dX12_isSign_47) _ h hl
            · have h := oif_neg c7 h
              refine lv_iload_n hx hb dX12_isSign_36 rfl (lv_at hl 0 rfl) ?_
              refine lv_bipush (v := 47) hx hb dX12_isSign_37 (by decide) ?_
              refine lv_icmp_ne (tgt := 46) hx hb dX12_isSign_39 (by decide) (fun c8 => ?_) (fun c8 => ?_)
              · have h := oif_neg c8 h
                refine lv_iconst (v := 0) hx hb dX12_isSign_46 (by decide) ?_
                have hl := lv_sub hl [] rfl
                exact tr_isSign_b47 E hml (fun ls gz => W.zret (v := r1) hx hb hr (nar01 gz) (fun t ht hW => ⟨r1, rfl, rfl, ht⟩) (fun _ h => absurd h List.not_mem_nil) dX12_isSign_47) _ _ h hl
              · have h := oif_pos c8 h
                have hl := lv_sub hl [] rfl
                exact tr_isSign_b42 E hml (fun ls gz => W.zret (v := r1) hx hb hr (nar01 gz) (fun t ht hW => ⟨r1, rfl, rfl, ht⟩) (fun _ h => absurd h List.not_mem_nil) dX12_isSign_47) _ h hl
def fr_nextToken_b292  (S : MS)  : Option (MS) := some S
set_option maxHeartbeats 4000000 in
set_option maxRecDepth 100000 in
theorem tr_nextToken_b292 {p : Program} {l : Launch} {e : Env} {s : State} {m : MethodId} {args : Array Value} {below : List Frame} {meth : Method} {c : Code} {Q : State → Prop} {D : va_G} {A : Nat → Prop} {H0 : Heap} {cI cJ cZ : ClassId} {ad : Nat → Nat} {S1 : MS} (E : mE p c cX12_nextToken s m args (Cond.code yX12_nextToken cX12_nextToken 1 none :: wsM) D cI cJ cZ) (hA : ∀ q : Nat, H0.size ≤ q → A q) (hR : sR s) (hml : c.maxLocals = 1) (kr7 : ∀ (H : Heap) (locs : List Loc) (ls : Array Slot), mG D cI cJ cZ ad A H0 H locs S1 → W p l e { frames := 2, cells := 0, slots := 0, locals := 22 } s m args below meth c H locs 0 0 Q (F0 m 7 ls [])) (kr292 : ∀ (H : Heap) (locs : List Loc) (ls : Array Slot), mG D cI cJ cZ ad A H0 H locs S1 → W p l e { frames := 2, cells := 0, slots := 0, locals := 22 } s m args below meth c H locs 0 0 Q (F0 m 292 ls [])) : ∀ (S : MS) (H : Heap) (locs : List Loc) (ls : Array Slot), fr_nextToken_b292 S = some S1 → mG D cI cJ cZ ad A H0 H locs S → lv_has ls 1 [] → W p l e { frames := 2, cells := 0, slots := 0, locals := 22 } s m args below meth c H locs 0 0 Q (F0 m 292 ls []) := by
  have hx := E.1
  have hb := E.2.1
  have hts := E.2.2.1
  have hown := E.2.2.2.1
  have hK := E.2.2.2.2.1
  intro S H locs ls h G hl
  unfold fr_nextToken_b292 at h
  rw [osome1 h] at G
  exact kr292 _ _ _ G
def fr_nextToken_b279  (S : MS) (s0 : Int32) : Option (MS) := elet (mi S 7 s0) fun S2 => elet (S2.1 4) fun v3 => elet (v3 + 1) fun v4 => elet (mi S2 4 v4) fun S5 => fr_nextToken_b292 S5
set_option maxHeartbeats 4000000 in
set_option maxRecDepth 100000 in
theorem tr_nextToken_b279 {p : Program} {l : Launch} {e : Env} {s : State} {m : MethodId} {args : Array Value} {below : List Frame} {meth : Method} {c : Code} {Q : State → Prop} {D : va_G} {A : Nat → Prop} {H0 : Heap} {cI cJ cZ : ClassId} {ad : Nat → Nat} {S1 : MS} (E : mE p c cX12_nextToken s m args (Cond.code yX12_nextToken cX12_nextToken 1 none :: wsM) D cI cJ cZ) (hA : ∀ q : Nat, H0.size ≤ q → A q) (hR : sR s) (hml : c.maxLocals = 1) (kr7 : ∀ (H : Heap) (locs : List Loc) (ls : Array Slot), mG D cI cJ cZ ad A H0 H locs S1 → W p l e { frames := 2, cells := 0, slots := 0, locals := 22 } s m args below meth c H locs 0 0 Q (F0 m 7 ls [])) (kr292 : ∀ (H : Heap) (locs : List Loc) (ls : Array Slot), mG D cI cJ cZ ad A H0 H locs S1 → W p l e { frames := 2, cells := 0, slots := 0, locals := 22 } s m args below meth c H locs 0 0 Q (F0 m 292 ls [])) : ∀ (S : MS) (H : Heap) (locs : List Loc) (ls : Array Slot) (s0 : Int32), fr_nextToken_b279 S s0 = some S1 → mG D cI cJ cZ ad A H0 H locs S → lv_has ls 1 [(0, .ref (ad 0))] → W p l e { frames := 2, cells := 0, slots := 0, locals := 22 } s m args below meth c H locs 0 0 Q (F0 m 279 ls [.int s0, .ref (ad 0)]) := by
  have hx := E.1
  have hb := E.2.1
  have hts := E.2.2.1
  have hown := E.2.2.2.1
  have hK := E.2.2.2.2.1
  intro S H locs ls s0 h G hl
  unfold fr_nextToken_b279 at h
  refine m_put E G 7 (by decide) (.tail _ qM_47) (mw_i7 _ _ _ _ _ s0) dX12_nextToken_279 ⟨rfl, rfl, rfl⟩ rfl rfl (fun H locs G => ?_)
  obtain ⟨S2, eS2, h⟩ := elet_some h
  rw [← eS2] at G
  clear eS2
  refine lv_aload_n hx hb dX12_nextToken_282 rfl (lv_at hl 0 rfl) ?_
  refine lv_dup hx hb dX12_nextToken_283 rfl ?_
  refine m_get E G 4 (v := .int (S2.1 4)) (by decide) (.tail _ qM_46) rfl dX12_nextToken_284 rfl ?_
  refine lv_topi (fun v3 ev3 => ?_)
  have h := elet_at ev3 h
  clear ev3
  refine lv_iconst (v := 1) hx hb dX12_nextToken_287 (by decide) ?_
  refine lv_iadd hx hb dX12_nextToken_288 ?_
  refine lv_topi (fun v4 ev4 => ?_)
  have h := elet_at ev4 h
  clear ev4
  refine m_put E G 4 (by decide) (.tail _ qM_46) (mw_i4 _ _ _ _ _ v4) dX12_nextToken_289 ⟨rfl, rfl, rfl⟩ rfl rfl (fun H locs G => ?_)
  obtain ⟨S5, eS5, h⟩ := elet_some h
  rw [← eS5] at G
  clear eS5
  have hl := lv_sub hl [] rfl
  exact tr_nextToken_b292 E hA hR hml kr7 kr292 _ _ _ _ h G hl
def fr_nextToken_b245  (S : MS) (s0 : Int32) : Option (MS) := elet (mi S 7 s0) fun S2 => fr_nextToken_b292 S2
set_option maxHeartbeats 4000000 in
set_option maxRecDepth 100000 in
theorem tr_nextToken_b245 {p : Program} {l : Launch} {e : Env} {s : State} {m : MethodId} {args : Array Value} {below : List Frame} {meth : Method} {c : Code} {Q : State → Prop} {D : va_G} {A : Nat → Prop} {H0 : Heap} {cI cJ cZ : ClassId} {ad : Nat → Nat} {S1 : MS} (E : mE p c cX12_nextToken s m args (Cond.code yX12_nextToken cX12_nextToken 1 none :: wsM) D cI cJ cZ) (hA : ∀ q : Nat, H0.size ≤ q → A q) (hR : sR s) (hml : c.maxLocals = 1) (kr7 : ∀ (H : Heap) (locs : List Loc) (ls : Array Slot), mG D cI cJ cZ ad A H0 H locs S1 → W p l e { frames := 2, cells := 0, slots := 0, locals := 22 } s m args below meth c H locs 0 0 Q (F0 m 7 ls [])) (kr292 : ∀ (H : Heap) (locs : List Loc) (ls : Array Slot), mG D cI cJ cZ ad A H0 H locs S1 → W p l e { frames := 2, cells := 0, slots := 0, locals := 22 } s m args below meth c H locs 0 0 Q (F0 m 292 ls [])) : ∀ (S : MS) (H : Heap) (locs : List Loc) (ls : Array Slot) (s0 : Int32), fr_nextToken_b245 S s0 = some S1 → mG D cI cJ cZ ad A H0 H locs S → lv_has ls 1 [] → W p l e { frames := 2, cells := 0, slots := 0, locals := 22 } s m args below meth c H locs 0 0 Q (F0 m 245 ls [.int s0, .ref (ad 0)]) := by
  have hx := E.1
  have hb := E.2.1
  have hts := E.2.2.1
  have hown := E.2.2.2.1
  have hK := E.2.2.2.2.1
  intro S H locs ls s0 h G hl
  unfold fr_nextToken_b245 at h
  refine m_put E G 7 (by decide) (.tail _ qM_47) (mw_i7 _ _ _ _ _ s0) dX12_nextToken_245 ⟨rfl, rfl, rfl⟩ rfl rfl (fun H locs G => ?_)
  obtain ⟨S2, eS2, h⟩ := elet_some h
  rw [← eS2] at G
  clear eS2
  refine lv_goto (tgt := 292) hx hb dX12_nextToken_248 (by decide) ?_
  have hl := lv_sub hl [] rfl
  exact tr_nextToken_b292 E hA hR hml kr7 kr292 _ _ _ _ h G hl
def fr_nextToken_b213 (k159 : MS → Option (MS)) (S : MS)  : Option (MS) := elet (S.1 4) fun v2 => elet (v2 + 1) fun v3 => elet (mi S 4 v3) fun S4 => k159 S4
set_option maxHeartbeats 4000000 in
set_option maxRecDepth 100000 in
theorem tr_nextToken_b213 {p : Program} {l : Launch} {e : Env} {s : State} {m : MethodId} {args : Array Value} {below : List Frame} {meth : Method} {c : Code} {Q : State → Prop} {D : va_G} {A : Nat → Prop} {H0 : Heap} {cI cJ cZ : ClassId} {ad : Nat → Nat} {S1 : MS} (E : mE p c cX12_nextToken s m args (Cond.code yX12_nextToken cX12_nextToken 1 none :: wsM) D cI cJ cZ) (hA : ∀ q : Nat, H0.size ≤ q → A q) (hR : sR s) (hml : c.maxLocals = 1) (kr7 : ∀ (H : Heap) (locs : List Loc) (ls : Array Slot), mG D cI cJ cZ ad A H0 H locs S1 → W p l e { frames := 2, cells := 0, slots := 0, locals := 22 } s m args below meth c H locs 0 0 Q (F0 m 7 ls [])) (kr292 : ∀ (H : Heap) (locs : List Loc) (ls : Array Slot), mG D cI cJ cZ ad A H0 H locs S1 → W p l e { frames := 2, cells := 0, slots := 0, locals := 22 } s m args below meth c H locs 0 0 Q (F0 m 292 ls [])) {k159 : MS → Option (MS)} (hk159 : ∀ (S : MS) (H : Heap) (locs : List Loc) (ls : Array Slot), k159 S = some S1 → mG D cI cJ cZ ad A H0 H locs S → lv_has ls 1 [(0, .ref (ad 0))] → W p l e { frames := 2, cells := 0, slots := 0, locals := 22 } s m args below meth c H locs 0 0 Q (F0 m 159 ls [])) : ∀ (S : MS) (H : Heap) (locs : List Loc) (ls : Array Slot), fr_nextToken_b213 k159 S = some S1 → mG D cI cJ cZ ad A H0 H locs S → lv_has ls 1 [(0, .ref (ad 0))] → W p l e { frames := 2, cells := 0, slots := 0, locals := 22 } s m args below meth c H locs 0 0 Q (F0 m 213 ls []) := by
  have hx := E.1
  have hb := E.2.1
  have hts := E.2.2.1
  have hown := E.2.2.2.1
  have hK := E.2.2.2.2.1
  intro S H locs ls h G hl
  unfold fr_nextToken_b213 at h
  refine lv_aload_n hx hb dX12_nextToken_213 rfl (lv_at hl 0 rfl) ?_
  refine lv_dup hx hb dX12_nextToken_214 rfl ?_
  refine m_get E G 4 (v := .int (S.1 4)) (by decide) (.tail _ qM_46) rfl dX12_nextToken_215 rfl ?_
  refine lv_topi (fun v2 ev2 => ?_)
  have h := elet_at ev2 h
  clear ev2
  refine lv_iconst (v := 1) hx hb dX12_nextToken_218 (by decide) ?_
  refine lv_iadd hx hb dX12_nextToken_219 ?_
  refine lv_topi (fun v3 ev3 => ?_)
  have h := elet_at ev3 h
  clear ev3
  refine m_put E G 4 (by decide) (.tail _ qM_46) (mw_i4 _ _ _ _ _ v3) dX12_nextToken_220 ⟨rfl, rfl, rfl⟩ rfl rfl (fun H locs G => ?_)
  obtain ⟨S4, eS4, h⟩ := elet_some h
  rw [← eS4] at G
  clear eS4
  refine lv_goto (tgt := 159) hx hb dX12_nextToken_223 (by decide) ?_
  have hl := lv_sub hl [0] rfl
  exact hk159 _ _ _ _ h G hl
def fr_nextToken_b159  : Nat → MS → Option (MS)
  | 0, _ => none
  | n + 1, S => elet (S.1 4) fun v2 => obind2 (fr_byteAt S v2) fun r6 S3 => obind (fr_in r6 48 57) fun r7 => if r7 = 0 then (elet (S3.1 4) fun v10 => elet (S3.1 8) fun v11 => elet (v10 - v11) fun v12 => if v12 ≤ 4 then (fr_nextToken_b245 S3 3) else (fr_nextToken_b245 S3 0)) else (elet (S3.1 4) fun v14 => elet (S3.1 8) fun v15 => elet (v14 - v15) fun v16 => if 4 ≤ v16 then (fr_nextToken_b213 (fr_nextToken_b159 n) S3) else (elet (S3.1 9) fun v18 => elet (10 * v18) fun v19 => elet (S3.1 4) fun v20 => obind2 (fr_byteAt S3 v20) fun r24 S21 => elet (v19 + r24) fun v25 => elet (v25 - 48) fun v26 => elet (mi S21 9 v26) fun S27 => fr_nextToken_b213 (fr_nextToken_b159 n) S27))
set_option maxHeartbeats 4000000 in
set_option maxRecDepth 100000 in
theorem tr_nextToken_b159 {p : Program} {l : Launch} {e : Env} {s : State} {m : MethodId} {args : Array Value} {below : List Frame} {meth : Method} {c : Code} {Q : State → Prop} {D : va_G} {A : Nat → Prop} {H0 : Heap} {cI cJ cZ : ClassId} {ad : Nat → Nat} {S1 : MS} (E : mE p c cX12_nextToken s m args (Cond.code yX12_nextToken cX12_nextToken 1 none :: wsM) D cI cJ cZ) (hA : ∀ q : Nat, H0.size ≤ q → A q) (hR : sR s) (hml : c.maxLocals = 1) (kr7 : ∀ (H : Heap) (locs : List Loc) (ls : Array Slot), mG D cI cJ cZ ad A H0 H locs S1 → W p l e { frames := 2, cells := 0, slots := 0, locals := 22 } s m args below meth c H locs 0 0 Q (F0 m 7 ls [])) (kr292 : ∀ (H : Heap) (locs : List Loc) (ls : Array Slot), mG D cI cJ cZ ad A H0 H locs S1 → W p l e { frames := 2, cells := 0, slots := 0, locals := 22 } s m args below meth c H locs 0 0 Q (F0 m 292 ls [])) : ∀ n : Nat, ∀ (S : MS) (H : Heap) (locs : List Loc) (ls : Array Slot), fr_nextToken_b159 n S = some S1 → mG D cI cJ cZ ad A H0 H locs S → lv_has ls 1 [(0, .ref (ad 0))] → W p l e { frames := 2, cells := 0, slots := 0, locals := 22 } s m args below meth c H locs 0 0 Q (F0 m 159 ls []) := by
  have hx := E.1
  have hb := E.2.1
  have hts := E.2.2.1
  have hown := E.2.2.2.1
  have hK := E.2.2.2.2.1
  intro n
  induction n with
  | zero =>
    intro S H locs ls h
    have h : (none : Option (MS)) = some S1 := h
    cases h
  | succ n ih =>
    intro S H locs ls h G hl
    unfold fr_nextToken_b159 at h
    refine lv_aload_n hx hb dX12_nextToken_159 rfl (lv_at hl 0 rfl) ?_
    refine lv_aload_n hx hb dX12_nextToken_160 rfl (lv_at hl 0 rfl) ?_
    refine m_get E G 4 (v := .int (S.1 4)) (by decide) (.tail _ qM_46) rfl dX12_nextToken_161 rfl ?_
    refine lv_topi (fun v2 ev2 => ?_)
    have h := elet_at ev2 h
    clear ev2
    obtain ⟨r6, S3, eS3, h⟩ := obind2_some h
    refine m_calli (As := [.int v2]) (rest := []) E G hA hR hml (tr_byteAt l D cI cJ cZ ad S v2 eS3) (cwV 1 hts (gmV qM_49 qM_50 qM_51 qM_35 qM_40) rfl rfl rfl (by decide +kernel) ⟨Nat.le_of_ble_eq_true rfl, Nat.le_of_ble_eq_true rfl⟩) rfl hl.1 rfl (lv_room (Nat.le_of_ble_eq_true rfl)) dX12_nextToken_164 ⟨Nat.zero_le _, Nat.zero_le _⟩ (fun q4 S5 H locs hq G => ?_)
    obtain ⟨hq1, hq2⟩ := hq
    rw [hq2] at G
    refine lv_to hq1 ?_
    clear hq1 hq2 eS3
    refine lv_bipush (v := 48) hx hb dX12_nextToken_167 (by decide) ?_
    refine lv_bipush (v := 57) hx hb dX12_nextToken_169 (by decide) ?_
    obtain ⟨r7, er7, h⟩ := obind_some h
    refine m_stat (As := [.int r6, .int 48, .int 57]) (rest := []) ⟨hx, hb, hml, hown, hts⟩ (tr_in l r6 48 57 er7) (cwS 3 hts (gmS qM_52 qM_53 qM_35 qM_27) rfl rfl rfl (by decide +kernel) ⟨Nat.le_of_ble_eq_true rfl, Nat.le_of_ble_eq_true rfl⟩) rfl hl.1 rfl (lv_room (Nat.le_of_ble_eq_true rfl)) dX12_nextToken_171 ⟨Nat.zero_le _, Nat.zero_le _⟩ (fun q8 hq => ?_)
    refine lv_to hq ?_
    clear hq er7
    refine lv_if_eq (tgt := 226) hx hb dX12_nextToken_174 (by decide) (fun c9 => ?_) (fun c9 => ?_)
    · have h := oif_pos c9 h
      refine lv_aload_n hx hb dX12_nextToken_226 rfl (lv_at hl 0 rfl) ?_
      refine lv_aload_n hx hb dX12_nextToken_227 rfl (lv_at hl 0 rfl) ?_
      refine m_get E G 4 (v := .int (S3.1 4)) (by decide) (.tail _ qM_46) rfl dX12_nextToken_228 rfl ?_
      refine lv_topi (fun v10 ev10 => ?_)
      have h := elet_at ev10 h
      clear ev10
      refine lv_aload_n hx hb dX12_nextToken_231 rfl (lv_at hl 0 rfl) ?_
      refine m_get E G 8 (v := .int (S3.1 8)) (by decide) (.tail _ qM_43) rfl dX12_nextToken_232 rfl ?_
      refine lv_topi (fun v11 ev11 => ?_)
      have h := elet_at ev11 h
      clear ev11
      refine lv_isub hx hb dX12_nextToken_235 ?_
      refine lv_topi (fun v12 ev12 => ?_)
      have h := elet_at ev12 h
      clear ev12
      refine lv_iconst (v := 4) hx hb dX12_nextToken_236 (by decide) ?_
      refine lv_icmp_le (tgt := 244) hx hb dX12_nextToken_237 (by decide) (fun c13 => ?_) (fun c13 => ?_)
      · have h := oif_pos c13 h
        refine lv_iconst (v := 3) hx hb dX12_nextToken_244 (by decide) ?_
        have hl := lv_sub hl [] rfl
        exact tr_nextToken_b245 E hA hR hml kr7 kr292 _ _ _ _ _ h G hl
      · have h := oif_neg c13 h
        refine lv_iconst (v := 0) hx hb dX12_nextToken_240 (by decide) ?_
        refine lv_goto (tgt := 245) hx hb dX12_nextToken_241 (by decide) ?_
        have hl := lv_sub hl [] rfl
        exact tr_nextToken_b245 E hA hR hml kr7 kr292 _ _ _ _ _ h G hl
    · have h := oif_neg c9 h
      refine lv_aload_n hx hb dX12_nextToken_177 rfl (lv_at hl 0 rfl) ?_
      refine m_get E G 4 (v := .int (S3.1 4)) (by decide) (.tail _ qM_46) rfl dX12_nextToken_178 rfl ?_
      refine lv_topi (fun v14 ev14 => ?_)
      have h := elet_at ev14 h
      clear ev14
      refine lv_aload_n hx hb dX12_nextToken_181 rfl (lv_at hl 0 rfl) ?_
      refine m_get E G 8 (v := .int (S3.1 8)) (by decide) (.tail _ qM_43) rfl dX12_nextToken_182 rfl ?_
      refine lv_topi (fun v15 ev15 => ?_)
      have h := elet_at ev15 h
      clear ev15
      refine lv_isub hx hb dX12_nextToken_185 ?_
      refine lv_topi (fun v16 ev16 => ?_)
      have h := elet_at ev16 h
      clear ev16
      refine lv_iconst (v := 4) hx hb dX12_nextToken_186 (by decide) ?_
      refine lv_icmp_ge (tgt := 213) hx hb dX12_nextToken_187 (by decide) (fun c17 => ?_) (fun c17 => ?_)
      · have h := oif_pos c17 h
        have hl := lv_sub hl [0] rfl
        exact tr_nextToken_b213 E hA hR hml kr7 kr292 ih _ _ _ _ h G hl
      · have h := oif_neg c17 h
        refine lv_aload_n hx hb dX12_nextToken_190 rfl (lv_at hl 0 rfl) ?_
        refine lv_bipush (v := 10) hx hb dX12_nextToken_191 (by decide) ?_
        refine lv_aload_n hx hb dX12_nextToken_193 rfl (lv_at hl 0 rfl) ?_
        refine m_get E G 9 (v := .int (S3.1 9)) (by decide) (.tail _ qM_48) rfl dX12_nextToken_194 rfl ?_
        refine lv_topi (fun v18 ev18 => ?_)
        have h := elet_at ev18 h
        clear ev18
        refine lv_imul hx hb dX12_nextToken_197 ?_
        refine lv_topi (fun v19 ev19 => ?_)
        have h := elet_at ev19 h
        clear ev19
        refine lv_aload_n hx hb dX12_nextToken_198 rfl (lv_at hl 0 rfl) ?_
        refine lv_aload_n hx hb dX12_nextToken_199 rfl (lv_at hl 0 rfl) ?_
        refine m_get E G 4 (v := .int (S3.1 4)) (by decide) (.tail _ qM_46) rfl dX12_nextToken_200 rfl ?_
        refine lv_topi (fun v20 ev20 => ?_)
        have h := elet_at ev20 h
        clear ev20
        obtain ⟨r24, S21, eS21, h⟩ := obind2_some h
        refine m_calli (As := [.int v20]) (rest := [.int v19, .ref (ad 0)]) E G hA hR hml (tr_byteAt l D cI cJ cZ ad S3 v20 eS21) (cwV 1 hts (gmV qM_49 qM_50 qM_51 qM_35 qM_40) rfl rfl rfl (by decide +kernel) ⟨Nat.le_of_ble_eq_true rfl, Nat.le_of_ble_eq_true rfl⟩) rfl hl.1 rfl (lv_room (Nat.le_of_ble_eq_true rfl)) dX12_nextToken_203 ⟨Nat.zero_le _, Nat.zero_le _⟩ (fun q22 S23 H locs hq G => ?_)
        obtain ⟨hq1, hq2⟩ := hq
        rw [hq2] at G
        refine lv_to hq1 ?_
        clear hq1 hq2 eS21
        refine lv_iadd hx hb dX12_nextToken_206 ?_
        refine lv_topi (fun v25 ev25 => ?_)
        have h := elet_at ev25 h
        clear ev25
        refine lv_bipush (v := 48) hx hb dX12_nextToken_207 (by decide) ?_
        refine lv_isub hx hb dX12_nextToken_209 ?_
        refine lv_topi (fun v26 ev26 => ?_)
        have h := elet_at ev26 h
        clear ev26
        refine m_put E G 9 (by decide) (.tail _ qM_48) (mw_i9 _ _ _ _ _ v26) dX12_nextToken_210 ⟨rfl, rfl, rfl⟩ rfl rfl (fun H locs G => ?_)
        obtain ⟨S27, eS27, h⟩ := elet_some h
        rw [← eS27] at G
        clear eS27
        have hl := lv_sub hl [0] rfl
        exact tr_nextToken_b213 E hA hR hml kr7 kr292 ih _ _ _ _ h G hl
def fr_nextToken_b130  (S : MS) (s0 : Int32) : Option (MS) := elet (mi S 7 s0) fun S2 => fr_nextToken_b292 S2
set_option maxHeartbeats 4000000 in
set_option maxRecDepth 100000 in
theorem tr_nextToken_b130 {p : Program} {l : Launch} {e : Env} {s : State} {m : MethodId} {args : Array Value} {below : List Frame} {meth : Method} {c : Code} {Q : State → Prop} {D : va_G} {A : Nat → Prop} {H0 : Heap} {cI cJ cZ : ClassId} {ad : Nat → Nat} {S1 : MS} (E : mE p c cX12_nextToken s m args (Cond.code yX12_nextToken cX12_nextToken 1 none :: wsM) D cI cJ cZ) (hA : ∀ q : Nat, H0.size ≤ q → A q) (hR : sR s) (hml : c.maxLocals = 1) (kr7 : ∀ (H : Heap) (locs : List Loc) (ls : Array Slot), mG D cI cJ cZ ad A H0 H locs S1 → W p l e { frames := 2, cells := 0, slots := 0, locals := 22 } s m args below meth c H locs 0 0 Q (F0 m 7 ls [])) (kr292 : ∀ (H : Heap) (locs : List Loc) (ls : Array Slot), mG D cI cJ cZ ad A H0 H locs S1 → W p l e { frames := 2, cells := 0, slots := 0, locals := 22 } s m args below meth c H locs 0 0 Q (F0 m 292 ls [])) : ∀ (S : MS) (H : Heap) (locs : List Loc) (ls : Array Slot) (s0 : Int32), fr_nextToken_b130 S s0 = some S1 → mG D cI cJ cZ ad A H0 H locs S → lv_has ls 1 [] → W p l e { frames := 2, cells := 0, slots := 0, locals := 22 } s m args below meth c H locs 0 0 Q (F0 m 130 ls [.int s0, .ref (ad 0)]) := by
  have hx := E.1
  have hb := E.2.1
  have hts := E.2.2.1
  have hown := E.2.2.2.1
  have hK := E.2.2.2.2.1
  intro S H locs ls s0 h G hl
  unfold fr_nextToken_b130 at h
  refine m_put E G 7 (by decide) (.tail _ qM_47) (mw_i7 _ _ _ _ _ s0) dX12_nextToken_130 ⟨rfl, rfl, rfl⟩ rfl rfl (fun H locs G => ?_)
  obtain ⟨S2, eS2, h⟩ := elet_some h
  rw [← eS2] at G
  clear eS2
  refine lv_goto (tgt := 292) hx hb dX12_nextToken_133 (by decide) ?_
  have hl := lv_sub hl [] rfl
  exact tr_nextToken_b292 E hA hR hml kr7 kr292 _ _ _ _ h G hl
def fr_nextToken_b79  : Nat → MS → Option (MS)
  | 0, _ => none
  | n + 1, S => elet (S.1 4) fun v2 => obind2 (fr_byteAt S v2) fun r6 S3 => obind (fr_in r6 97 122) fun r7 => if r7 = 0 then (elet (S3.1 4) fun v10 => elet (S3.1 8) fun v11 => elet (v10 - v11) fun v12 => if v12 ≤ 8 then (fr_nextToken_b130 S3 2) else (fr_nextToken_b130 S3 0)) else (elet (S3.1 4) fun v14 => elet (v14 + 1) fun v15 => elet (mi S3 4 v15) fun S16 => fr_nextToken_b79 n S16)
set_option maxHeartbeats 4000000 in
set_option maxRecDepth 100000 in
theorem tr_nextToken_b79 {p : Program} {l : Launch} {e : Env} {s : State} {m : MethodId} {args : Array Value} {below : List Frame} {meth : Method} {c : Code} {Q : State → Prop} {D : va_G} {A : Nat → Prop} {H0 : Heap} {cI cJ cZ : ClassId} {ad : Nat → Nat} {S1 : MS} (E : mE p c cX12_nextToken s m args (Cond.code yX12_nextToken cX12_nextToken 1 none :: wsM) D cI cJ cZ) (hA : ∀ q : Nat, H0.size ≤ q → A q) (hR : sR s) (hml : c.maxLocals = 1) (kr7 : ∀ (H : Heap) (locs : List Loc) (ls : Array Slot), mG D cI cJ cZ ad A H0 H locs S1 → W p l e { frames := 2, cells := 0, slots := 0, locals := 22 } s m args below meth c H locs 0 0 Q (F0 m 7 ls [])) (kr292 : ∀ (H : Heap) (locs : List Loc) (ls : Array Slot), mG D cI cJ cZ ad A H0 H locs S1 → W p l e { frames := 2, cells := 0, slots := 0, locals := 22 } s m args below meth c H locs 0 0 Q (F0 m 292 ls [])) : ∀ n : Nat, ∀ (S : MS) (H : Heap) (locs : List Loc) (ls : Array Slot), fr_nextToken_b79 n S = some S1 → mG D cI cJ cZ ad A H0 H locs S → lv_has ls 1 [(0, .ref (ad 0))] → W p l e { frames := 2, cells := 0, slots := 0, locals := 22 } s m args below meth c H locs 0 0 Q (F0 m 79 ls []) := by
  have hx := E.1
  have hb := E.2.1
  have hts := E.2.2.1
  have hown := E.2.2.2.1
  have hK := E.2.2.2.2.1
  intro n
  induction n with
  | zero =>
    intro S H locs ls h
    have h : (none : Option (MS)) = some S1 := h
    cases h
  | succ n ih =>
    intro S H locs ls h G hl
    unfold fr_nextToken_b79 at h
    refine lv_aload_n hx hb dX12_nextToken_79 rfl (lv_at hl 0 rfl) ?_
    refine lv_aload_n hx hb dX12_nextToken_80 rfl (lv_at hl 0 rfl) ?_
    refine m_get E G 4 (v := .int (S.1 4)) (by decide) (.tail _ qM_46) rfl dX12_nextToken_81 rfl ?_
    refine lv_topi (fun v2 ev2 => ?_)
    have h := elet_at ev2 h
    clear ev2
    obtain ⟨r6, S3, eS3, h⟩ := obind2_some h
    refine m_calli (As := [.int v2]) (rest := []) E G hA hR hml (tr_byteAt l D cI cJ cZ ad S v2 eS3) (cwV 1 hts (gmV qM_49 qM_50 qM_51 qM_35 qM_40) rfl rfl rfl (by decide +kernel) ⟨Nat.le_of_ble_eq_true rfl, Nat.le_of_ble_eq_true rfl⟩) rfl hl.1 rfl (lv_room (Nat.le_of_ble_eq_true rfl)) dX12_nextToken_84 ⟨Nat.zero_le _, Nat.zero_le _⟩ (fun q4 S5 H locs hq G => ?_)
    obtain ⟨hq1, hq2⟩ := hq
    rw [hq2] at G
    refine lv_to hq1 ?_
    clear hq1 hq2 eS3
    refine lv_bipush (v := 97) hx hb dX12_nextToken_87 (by decide) ?_
    refine lv_bipush (v := 122) hx hb dX12_nextToken_89 (by decide) ?_
    obtain ⟨r7, er7, h⟩ := obind_some h
    refine m_stat (As := [.int r6, .int 97, .int 122]) (rest := []) ⟨hx, hb, hml, hown, hts⟩ (tr_in l r6 97 122 er7) (cwS 3 hts (gmS qM_52 qM_53 qM_35 qM_27) rfl rfl rfl (by decide +kernel) ⟨Nat.le_of_ble_eq_true rfl, Nat.le_of_ble_eq_true rfl⟩) rfl hl.1 rfl (lv_room (Nat.le_of_ble_eq_true rfl)) dX12_nextToken_91 ⟨Nat.zero_le _, Nat.zero_le _⟩ (fun q8 hq => ?_)
    refine lv_to hq ?_
    clear hq er7
    refine lv_if_eq (tgt := 110) hx hb dX12_nextToken_94 (by decide) (fun c9 => ?_) (fun c9 => ?_)
    · have h := oif_pos c9 h
      refine lv_aload_n hx hb dX12_nextToken_110 rfl (lv_at hl 0 rfl) ?_
      refine lv_aload_n hx hb dX12_nextToken_111 rfl (lv_at hl 0 rfl) ?_
      refine m_get E G 4 (v := .int (S3.1 4)) (by decide) (.tail _ qM_46) rfl dX12_nextToken_112 rfl ?_
      refine lv_topi (fun v10 ev10 => ?_)
      have h := elet_at ev10 h
      clear ev10
      refine lv_aload_n hx hb dX12_nextToken_115 rfl (lv_at hl 0 rfl) ?_
      refine m_get E G 8 (v := .int (S3.1 8)) (by decide) (.tail _ qM_43) rfl dX12_nextToken_116 rfl ?_
      refine lv_topi (fun v11 ev11 => ?_)
      have h := elet_at ev11 h
      clear ev11
      refine lv_isub hx hb dX12_nextToken_119 ?_
      refine lv_topi (fun v12 ev12 => ?_)
      have h := elet_at ev12 h
      clear ev12
      refine lv_bipush (v := 8) hx hb dX12_nextToken_120 (by decide) ?_
      refine lv_icmp_le (tgt := 129) hx hb dX12_nextToken_122 (by decide) (fun c13 => ?_) (fun c13 => ?_)
      · have h := oif_pos c13 h
        refine lv_iconst (v := 2) hx hb dX12_nextToken_129 (by decide) ?_
        have hl := lv_sub hl [] rfl
        exact tr_nextToken_b130 E hA hR hml kr7 kr292 _ _ _ _ _ h G hl
      · have h := oif_neg c13 h
        refine lv_iconst (v := 0) hx hb dX12_nextToken_125 (by decide) ?_
        refine lv_goto (tgt := 130) hx hb dX12_nextToken_126 (by decide) ?_
        have hl := lv_sub hl [] rfl
        exact tr_nextToken_b130 E hA hR hml kr7 kr292 _ _ _ _ _ h G hl
    · have h := oif_neg c9 h
      refine lv_aload_n hx hb dX12_nextToken_97 rfl (lv_at hl 0 rfl) ?_
      refine lv_dup hx hb dX12_nextToken_98 rfl ?_
      refine m_get E G 4 (v := .int (S3.1 4)) (by decide) (.tail _ qM_46) rfl dX12_nextToken_99 rfl ?_
      refine lv_topi (fun v14 ev14 => ?_)
      have h := elet_at ev14 h
      clear ev14
      refine lv_iconst (v := 1) hx hb dX12_nextToken_102 (by decide) ?_
      refine lv_iadd hx hb dX12_nextToken_103 ?_
      refine lv_topi (fun v15 ev15 => ?_)
      have h := elet_at ev15 h
      clear ev15
      refine m_put E G 4 (by decide) (.tail _ qM_46) (mw_i4 _ _ _ _ _ v15) dX12_nextToken_104 ⟨rfl, rfl, rfl⟩ rfl rfl (fun H locs G => ?_)
      obtain ⟨S16, eS16, h⟩ := elet_some h
      rw [← eS16] at G
      clear eS16
      refine lv_goto (tgt := 79) hx hb dX12_nextToken_107 (by decide) ?_
      have hl := lv_sub hl [0] rfl
      exact ih _ _ _ _ h G hl
def fr_nextToken_b8  : Nat → MS → Option (MS)
  | 0, _ => none
  | n + 1, S => elet (S.1 4) fun v2 => obind2 (fr_byteAt S v2) fun r6 S3 => if r6 = 32 then (elet (S3.1 4) fun v8 => elet (v8 + 1) fun v9 => elet (mi S3 4 v9) fun S10 => fr_nextToken_b8 n S10) else (elet (S3.1 4) fun v11 => elet (mi S3 8 v11) fun S12 => elet (S12.1 4) fun v13 => elet (S12.1 3) fun v14 => if v13 = v14 then (elet (mi S12 7 1) fun S16 => fr_nextToken_b292 S16) else (elet (S12.1 4) fun v17 => obind2 (fr_byteAt S12 v17) fun r21 S18 => obind (fr_in r21 97 122) fun r22 => if r22 = 0 then (elet (S18.1 4) fun v25 => obind2 (fr_byteAt S18 v25) fun r29 S26 => obind (fr_in r29 48 57) fun r30 => if r30 = 0 then (elet (S26.1 4) fun v33 => obind2 (fr_byteAt S26 v33) fun r37 S34 => elet (mi S34 9 r37) fun S38 => elet (S38.1 9) fun v39 => obind (fr_isSign v39) fun r40 => if r40 = 0 then (fr_nextToken_b279 S38 0) else (fr_nextToken_b279 S38 4)) else (elet (mi S26 9 0) fun S43 => fr_nextToken_b159 16384 S43)) else (fr_nextToken_b79 16384 S18)))
set_option maxHeartbeats 4000000 in
set_option maxRecDepth 100000 in
theorem tr_nextToken_b8 {p : Program} {l : Launch} {e : Env} {s : State} {m : MethodId} {args : Array Value} {below : List Frame} {meth : Method} {c : Code} {Q : State → Prop} {D : va_G} {A : Nat → Prop} {H0 : Heap} {cI cJ cZ : ClassId} {ad : Nat → Nat} {S1 : MS} (E : mE p c cX12_nextToken s m args (Cond.code yX12_nextToken cX12_nextToken 1 none :: wsM) D cI cJ cZ) (hA : ∀ q : Nat, H0.size ≤ q → A q) (hR : sR s) (hml : c.maxLocals = 1) (kr7 : ∀ (H : Heap) (locs : List Loc) (ls : Array Slot), mG D cI cJ cZ ad A H0 H locs S1 → W p l e { frames := 2, cells := 0, slots := 0, locals := 22 } s m args below meth c H locs 0 0 Q (F0 m 7 ls [])) (kr292 : ∀ (H : Heap) (locs : List Loc) (ls : Array Slot), mG D cI cJ cZ ad A H0 H locs S1 → W p l e { frames := 2, cells := 0, slots := 0, locals := 22 } s m args below meth c H locs 0 0 Q (F0 m 292 ls [])) : ∀ n : Nat, ∀ (S : MS) (H : Heap) (locs : List Loc) (ls : Array Slot), fr_nextToken_b8 n S = some S1 → mG D cI cJ cZ ad A H0 H locs S → lv_has ls 1 [(0, .ref (ad 0))] → W p l e { frames := 2, cells := 0, slots := 0, locals := 22 } s m args below meth c H locs 0 0 Q (F0 m 8 ls []) := by
  have hx := E.1
  have hb := E.2.1
  have hts := E.2.2.1
  have hown := E.2.2.2.1
  have hK := E.2.2.2.2.1
  intro n
  induction n with
  | zero =>
    intro S H locs ls h
    have h : (none : Option (MS)) = some S1 := h
    cases h
  | succ n ih =>
    intro S H locs ls h G hl
    unfold fr_nextToken_b8 at h
    refine lv_aload_n hx hb dX12_nextToken_8 rfl (lv_at hl 0 rfl) ?_
    refine lv_aload_n hx hb dX12_nextToken_9 rfl (lv_at hl 0 rfl) ?_
    refine m_get E G 4 (v := .int (S.1 4)) (by decide) (.tail _ qM_46) rfl dX12_nextToken_10 rfl ?_
    refine lv_topi (fun v2 ev2 => ?_)
    have h := elet_at ev2 h
    clear ev2
    obtain ⟨r6, S3, eS3, h⟩ := obind2_some h
    refine m_calli (As := [.int v2]) (rest := []) E G hA hR hml (tr_byteAt l D cI cJ cZ ad S v2 eS3) (cwV 1 hts (gmV qM_49 qM_50 qM_51 qM_35 qM_40) rfl rfl rfl (by decide +kernel) ⟨Nat.le_of_ble_eq_true rfl, Nat.le_of_ble_eq_true rfl⟩) rfl hl.1 rfl (lv_room (Nat.le_of_ble_eq_true rfl)) dX12_nextToken_13 ⟨Nat.zero_le _, Nat.zero_le _⟩ (fun q4 S5 H locs hq G => ?_)
    obtain ⟨hq1, hq2⟩ := hq
    rw [hq2] at G
    refine lv_to hq1 ?_
    clear hq1 hq2 eS3
    refine lv_bipush (v := 32) hx hb dX12_nextToken_16 (by decide) ?_
    refine lv_icmp_ne (tgt := 34) hx hb dX12_nextToken_18 (by decide) (fun c7 => ?_) (fun c7 => ?_)
    · have h := oif_neg c7 h
      refine lv_aload_n hx hb dX12_nextToken_34 rfl (lv_at hl 0 rfl) ?_
      refine lv_aload_n hx hb dX12_nextToken_35 rfl (lv_at hl 0 rfl) ?_
      refine m_get E G 4 (v := .int (S3.1 4)) (by decide) (.tail _ qM_46) rfl dX12_nextToken_36 rfl ?_
      refine lv_topi (fun v11 ev11 => ?_)
      have h := elet_at ev11 h
      clear ev11
      refine m_put E G 8 (by decide) (.tail _ qM_43) (mw_i8 _ _ _ _ _ v11) dX12_nextToken_39 ⟨rfl, rfl, rfl⟩ rfl rfl (fun H locs G => ?_)
      obtain ⟨S12, eS12, h⟩ := elet_some h
      rw [← eS12] at G
      clear eS12
      refine lv_aload_n hx hb dX12_nextToken_42 rfl (lv_at hl 0 rfl) ?_
      refine m_get E G 4 (v := .int (S12.1 4)) (by decide) (.tail _ qM_46) rfl dX12_nextToken_43 rfl ?_
      refine lv_topi (fun v13 ev13 => ?_)
      have h := elet_at ev13 h
      clear ev13
      refine lv_aload_n hx hb dX12_nextToken_46 rfl (lv_at hl 0 rfl) ?_
      refine m_get E G 3 (v := .int (S12.1 3)) (by decide) (.tail _ qM_41) rfl dX12_nextToken_47 rfl ?_
      refine lv_topi (fun v14 ev14 => ?_)
      have h := elet_at ev14 h
      clear ev14
      refine lv_icmp_ne (tgt := 61) hx hb dX12_nextToken_50 (by decide) (fun c15 => ?_) (fun c15 => ?_)
      · have h := oif_neg c15 h
        refine lv_aload_n hx hb dX12_nextToken_61 rfl (lv_at hl 0 rfl) ?_
        refine lv_aload_n hx hb dX12_nextToken_62 rfl (lv_at hl 0 rfl) ?_
        refine m_get E G 4 (v := .int (S12.1 4)) (by decide) (.tail _ qM_46) rfl dX12_nextToken_63 rfl ?_
        refine lv_topi (fun v17 ev17 => ?_)
        have h := elet_at ev17 h
        clear ev17
        obtain ⟨r21, S18, eS18, h⟩ := obind2_some h
        refine m_calli (As := [.int v17]) (rest := []) E G hA hR hml (tr_byteAt l D cI cJ cZ ad S12 v17 eS18) (cwV 1 hts (gmV qM_49 qM_50 qM_51 qM_35 qM_40) rfl rfl rfl (by decide +kernel) ⟨Nat.le_of_ble_eq_true rfl, Nat.le_of_ble_eq_true rfl⟩) rfl hl.1 rfl (lv_room (Nat.le_of_ble_eq_true rfl)) dX12_nextToken_66 ⟨Nat.zero_le _, Nat.zero_le _⟩ (fun q19 S20 H locs hq G => ?_)
        obtain ⟨hq1, hq2⟩ := hq
        rw [hq2] at G
        refine lv_to hq1 ?_
        clear hq1 hq2 eS18
        refine lv_bipush (v := 97) hx hb dX12_nextToken_69 (by decide) ?_
        refine lv_bipush (v := 122) hx hb dX12_nextToken_71 (by decide) ?_
        obtain ⟨r22, er22, h⟩ := obind_some h
        refine m_stat (As := [.int r21, .int 97, .int 122]) (rest := []) ⟨hx, hb, hml, hown, hts⟩ (tr_in l r21 97 122 er22) (cwS 3 hts (gmS qM_52 qM_53 qM_35 qM_27) rfl rfl rfl (by decide +kernel) ⟨Nat.le_of_ble_eq_true rfl, Nat.le_of_ble_eq_true rfl⟩) rfl hl.1 rfl (lv_room (Nat.le_of_ble_eq_true rfl)) dX12_nextToken_73 ⟨Nat.zero_le _, Nat.zero_le _⟩ (fun q23 hq => ?_)
        refine lv_to hq ?_
        clear hq er22
        refine lv_if_eq (tgt := 136) hx hb dX12_nextToken_76 (by decide) (fun c24 => ?_) (fun c24 => ?_)
        · have h := oif_pos c24 h
          refine lv_aload_n hx hb dX12_nextToken_136 rfl (lv_at hl 0 rfl) ?_
          refine lv_aload_n hx hb dX12_nextToken_137 rfl (lv_at hl 0 rfl) ?_
          refine m_get E G 4 (v := .int (S18.1 4)) (by decide) (.tail _ qM_46) rfl dX12_nextToken_138 rfl ?_
          refine lv_topi (fun v25 ev25 => ?_)
          have h := elet_at ev25 h
          clear ev25
          obtain ⟨r29, S26, eS26, h⟩ := obind2_some h
          refine m_calli (As := [.int v25]) (rest := []) E G hA hR hml (tr_byteAt l D cI cJ cZ ad S18 v25 eS26) (cwV 1 hts (gmV qM_49 qM_50 qM_51 qM_35 qM_40) rfl rfl rfl (by decide +kernel) ⟨Nat.le_of_ble_eq_true rfl, Nat.le_of_ble_eq_true rfl⟩) rfl hl.1 rfl (lv_room (Nat.le_of_ble_eq_true rfl)) dX12_nextToken_141 ⟨Nat.zero_le _, Nat.zero_le _⟩ (fun q27 S28 H locs hq G => ?_)
          obtain ⟨hq1, hq2⟩ := hq
          rw [hq2] at G
          refine lv_to hq1 ?_
          clear hq1 hq2 eS26
          refine lv_bipush (v := 48) hx hb dX12_nextToken_144 (by decide) ?_
          refine lv_bipush (v := 57) hx hb dX12_nextToken_146 (by decide) ?_
          obtain ⟨r30, er30, h⟩ := obind_some h
          refine m_stat (As := [.int r29, .int 48, .int 57]) (rest := []) ⟨hx, hb, hml, hown, hts⟩ (tr_in l r29 48 57 er30) (cwS 3 hts (gmS qM_52 qM_53 qM_35 qM_27) rfl rfl rfl (by decide +kernel) ⟨Nat.le_of_ble_eq_true rfl, Nat.le_of_ble_eq_true rfl⟩) rfl hl.1 rfl (lv_room (Nat.le_of_ble_eq_true rfl)) dX12_nextToken_148 ⟨Nat.zero_le _, Nat.zero_le _⟩ (fun q31 hq => ?_)
          refine lv_to hq ?_
          clear hq er30
          refine lv_if_eq (tgt := 251) hx hb dX12_nextToken_151 (by decide) (fun c32 => ?_) (fun c32 => ?_)
          · have h := oif_pos c32 h
            refine lv_aload_n hx hb dX12_nextToken_251 rfl (lv_at hl 0 rfl) ?_
            refine lv_aload_n hx hb dX12_nextToken_252 rfl (lv_at hl 0 rfl) ?_
            refine lv_aload_n hx hb dX12_nextToken_253 rfl (lv_at hl 0 rfl) ?_
            refine m_get E G 4 (v := .int (S26.1 4)) (by decide) (.tail _ qM_46) rfl dX12_nextToken_254 rfl ?_
            refine lv_topi (fun v33 ev33 => ?_)
            have h := elet_at ev33 h
            clear ev33
            obtain ⟨r37, S34, eS34, h⟩ := obind2_some h
            refine m_calli (As := [.int v33]) (rest := [.ref (ad 0)]) E G hA hR hml (tr_byteAt l D cI cJ cZ ad S26 v33 eS34) (cwV 1 hts (gmV qM_49 qM_50 qM_51 qM_35 qM_40) rfl rfl rfl (by decide +kernel) ⟨Nat.le_of_ble_eq_true rfl, Nat.le_of_ble_eq_true rfl⟩) rfl hl.1 rfl (lv_room (Nat.le_of_ble_eq_true rfl)) dX12_nextToken_257 ⟨Nat.zero_le _, Nat.zero_le _⟩ (fun q35 S36 H locs hq G => ?_)
            obtain ⟨hq1, hq2⟩ := hq
            rw [hq2] at G
            refine lv_to hq1 ?_
            clear hq1 hq2 eS34
            refine m_put E G 9 (by decide) (.tail _ qM_48) (mw_i9 _ _ _ _ _ r37) dX12_nextToken_260 ⟨rfl, rfl, rfl⟩ rfl rfl (fun H locs G => ?_)
            obtain ⟨S38, eS38, h⟩ := elet_some h
            rw [← eS38] at G
            clear eS38
            refine lv_aload_n hx hb dX12_nextToken_263 rfl (lv_at hl 0 rfl) ?_
            refine lv_aload_n hx hb dX12_nextToken_264 rfl (lv_at hl 0 rfl) ?_
            refine m_get E G 9 (v := .int (S38.1 9)) (by decide) (.tail _ qM_48) rfl dX12_nextToken_265 rfl ?_
            refine lv_topi (fun v39 ev39 => ?_)
            have h := elet_at ev39 h
            clear ev39
            obtain ⟨r40, er40, h⟩ := obind_some h
            refine m_stat (As := [.int v39]) (rest := [.ref (ad 0)]) ⟨hx, hb, hml, hown, hts⟩ (tr_isSign l v39 er40) (cwS 1 hts (gmS qM_54 qM_55 qM_35 qM_44) rfl rfl rfl (by decide +kernel) ⟨Nat.le_of_ble_eq_true rfl, Nat.le_of_ble_eq_true rfl⟩) rfl hl.1 rfl (lv_room (Nat.le_of_ble_eq_true rfl)) dX12_nextToken_268 ⟨Nat.zero_le _, Nat.zero_le _⟩ (fun q41 hq => ?_)
            refine lv_to hq ?_
            clear hq er40
            refine lv_if_eq (tgt := 278) hx hb dX12_nextToken_271 (by decide) (fun c42 => ?_) (fun c42 => ?_)
            · have h := oif_pos c42 h
              refine lv_iconst (v := 0) hx hb dX12_nextToken_278 (by decide) ?_
              have hl := lv_sub hl [0] rfl
              exact tr_nextToken_b279 E hA hR hml kr7 kr292 _ _ _ _ _ h G hl
            · have h := oif_neg c42 h
              refine lv_iconst (v := 4) hx hb dX12_nextToken_274 (by decide) ?_
              refine lv_goto (tgt := 279) hx hb dX12_nextToken_275 (by decide) ?_
              have hl := lv_sub hl [0] rfl
              exact tr_nextToken_b279 E hA hR hml kr7 kr292 _ _ _ _ _ h G hl
          · have h := oif_neg c32 h
            refine lv_aload_n hx hb dX12_nextToken_154 rfl (lv_at hl 0 rfl) ?_
            refine lv_iconst (v := 0) hx hb dX12_nextToken_155 (by decide) ?_
            refine m_put E G 9 (by decide) (.tail _ qM_48) (mw_i9 _ _ _ _ _ 0) dX12_nextToken_156 ⟨rfl, rfl, rfl⟩ rfl rfl (fun H locs G => ?_)
            obtain ⟨S43, eS43, h⟩ := elet_some h
            rw [← eS43] at G
            clear eS43
            have hl := lv_sub hl [0] rfl
            exact tr_nextToken_b159 E hA hR hml kr7 kr292 _ _ _ _ _ h G hl
        · have h := oif_neg c24 h
          have hl := lv_sub hl [0] rfl
          exact tr_nextToken_b79 E hA hR hml kr7 kr292 _ _ _ _ _ h G hl
      · have h := oif_pos c15 h
        refine lv_aload_n hx hb dX12_nextToken_53 rfl (lv_at hl 0 rfl) ?_
        refine lv_iconst (v := 1) hx hb dX12_nextToken_54 (by decide) ?_
        refine m_put E G 7 (by decide) (.tail _ qM_47) (mw_i7 _ _ _ _ _ 1) dX12_nextToken_55 ⟨rfl, rfl, rfl⟩ rfl rfl (fun H locs G => ?_)
        obtain ⟨S16, eS16, h⟩ := elet_some h
        rw [← eS16] at G
        clear eS16
        refine lv_goto (tgt := 292) hx hb dX12_nextToken_58 (by decide) ?_
        have hl := lv_sub hl [] rfl
        exact tr_nextToken_b292 E hA hR hml kr7 kr292 _ _ _ _ h G hl
    · have h := oif_pos c7 h
      refine lv_aload_n hx hb dX12_nextToken_21 rfl (lv_at hl 0 rfl) ?_
      refine lv_dup hx hb dX12_nextToken_22 rfl ?_
      refine m_get E G 4 (v := .int (S3.1 4)) (by decide) (.tail _ qM_46) rfl dX12_nextToken_23 rfl ?_
      refine lv_topi (fun v8 ev8 => ?_)
      have h := elet_at ev8 h
      clear ev8
      refine lv_iconst (v := 1) hx hb dX12_nextToken_26 (by decide) ?_
      refine lv_iadd hx hb dX12_nextToken_27 ?_
      refine lv_topi (fun v9 ev9 => ?_)
      have h := elet_at ev9 h
      clear ev9
      refine m_put E G 4 (by decide) (.tail _ qM_46) (mw_i4 _ _ _ _ _ v9) dX12_nextToken_28 ⟨rfl, rfl, rfl⟩ rfl rfl (fun H locs G => ?_)
      obtain ⟨S10, eS10, h⟩ := elet_some h
      rw [← eS10] at G
      clear eS10
      refine lv_goto (tgt := 8) hx hb dX12_nextToken_31 (by decide) ?_
      have hl := lv_sub hl [0] rfl
      exact ih _ _ _ _ h G hl
def fr_nextToken (S : MS)  : Option (MS) := elet (S.1 5) fun v2 => if v2 ≤ 0 then (fr_nextToken_b8 16384 S) else (some S)
set_option maxHeartbeats 4000000 in
set_option maxRecDepth 100000 in
theorem tr_nextToken (l : Launch) (D : va_G) (cI cJ cZ : ClassId) (ad : Nat → Nat) (S : MS)  {S1 : MS} (h : fr_nextToken S = some S1) : mCv l yX12_nextToken (Cond.code yX12_nextToken cX12_nextToken 1 none :: wsM) 2 22 D cI cJ cZ ad S [] (fun S9 => S9 = S1) := by
  intro sz
  refine pro_in (cc := cX12_nextToken) (maxL := 1) (ret := none) (by exact pn_RX12) rfl (by exact Nat.le_of_ble_eq_true rfl) (fun p e s m below meth c ls hx hb hr hts hown hlocks hml hv hl => ?_)
  obtain ⟨hsz, hP, hK, hD0, hR⟩ := hv
  subst hsz
  have hD := hD0.self (sz := s.heap.size)
  generalize hAe : va_A (MW cI cJ cZ ad S) s.heap.size = A at hD ⊢
  have hA : ∀ q : Nat, s.heap.size ≤ q → A q := fun q h => by rw [← hAe]; exact Or.inr h
  have G : mG D cI cJ cZ ad A s.heap s.heap [] S := ⟨hP, hD, va_S.rf⟩
  have E : mE p c cX12_nextToken s m ([.ref (ad 0)] : List Value).toArray (Cond.code yX12_nextToken cX12_nextToken 1 none :: wsM) D cI cJ cZ := ⟨hx, hb, hts, hown, hK, fun w h => .tail _ (iM_x h)⟩
  have hl : lv_has ls 1 [(0, .ref (ad 0))] := hl
  unfold fr_nextToken at h
  refine lv_aload_n hx hb dX12_nextToken_0 rfl (lv_at hl 0 rfl) ?_
  refine m_get E G 5 (v := .int (S.1 5)) (by decide) (.tail _ qM_38) rfl dX12_nextToken_1 rfl ?_
  refine lv_topi (fun v2 ev2 => ?_)
  have h := elet_at ev2 h
  clear ev2
  refine lv_if_le (tgt := 8) hx hb dX12_nextToken_4 (by decide) (fun c3 => ?_) (fun c3 => ?_)
  · have h := oif_pos c3 h
    have hl := lv_sub hl [0] rfl
    exact tr_nextToken_b8 E hA hR hml (fun H locs ls G => W.vret hx hb hr (fun t ht hW => ⟨⟨S1, rfl, rfl, ⟨by rw [ht]; exact G.1, va_K.moved hW.alike hK, G.2.1⟩⟩, G.2.2.F ht⟩) G.2.2.2.2 dX12_nextToken_7) (fun H locs ls G => W.vret hx hb hr (fun t ht hW => ⟨⟨S1, rfl, rfl, ⟨by rw [ht]; exact G.1, va_K.moved hW.alike hK, G.2.1⟩⟩, G.2.2.F ht⟩) G.2.2.2.2 dX12_nextToken_292) _ _ _ _ _ h G hl
  · have h := oif_neg c3 h
    exact W.vret hx hb hr (fun t ht hW => ⟨⟨S, rfl, osome1 h, ⟨by rw [ht]; exact G.1, va_K.moved hW.alike hK, G.2.1⟩⟩, G.2.2.F ht⟩) G.2.2.2.2 dX12_nextToken_7
def fr_isSignHere_b28  (S : MS) (s0 : Int32) : Option (Int32 × MS) := oif (s0 = 0 ∨ s0 = 1) <| some (s0, S)
set_option maxHeartbeats 4000000 in
set_option maxRecDepth 100000 in
theorem tr_isSignHere_b28 {p : Program} {l : Launch} {e : Env} {s : State} {m : MethodId} {args : Array Value} {below : List Frame} {meth : Method} {c : Code} {Q : State → Prop} {D : va_G} {A : Nat → Prop} {H0 : Heap} {cI cJ cZ : ClassId} {ad : Nat → Nat} {r1 : Int32} {S1 : MS} (E : mE p c cX12_isSignHere s m args (Cond.code yX12_isSignHere cX12_isSignHere 2 (some .boolean) :: wsM) D cI cJ cZ) (hA : ∀ q : Nat, H0.size ≤ q → A q) (hR : sR s) (hml : c.maxLocals = 2) (kr28 : ∀ (H : Heap) (locs : List Loc) (ls : Array Slot), (r1 = 0 ∨ r1 = 1) → mG D cI cJ cZ ad A H0 H locs S1 → W p l e { frames := 1, cells := 0, slots := 0, locals := 0 } s m args below meth c H locs 0 0 Q (F0 m 28 ls [.int r1])) : ∀ (S : MS) (H : Heap) (locs : List Loc) (ls : Array Slot) (s0 : Int32), fr_isSignHere_b28 S s0 = some (r1, S1) → mG D cI cJ cZ ad A H0 H locs S → lv_has ls 2 [] → W p l e { frames := 1, cells := 0, slots := 0, locals := 0 } s m args below meth c H locs 0 0 Q (F0 m 28 ls [.int s0]) := by
  have hx := E.1
  have hb := E.2.1
  have hts := E.2.2.1
  have hown := E.2.2.2.1
  have hK := E.2.2.2.2.1
  intro S H locs ls s0 h G hl
  unfold fr_isSignHere_b28 at h
  obtain ⟨gz, h⟩ := oif_some h
  have gr : r1 = 0 ∨ r1 = 1 := by rw [← (osome2 h).1]; exact gz
  rw [(osome2 h).2] at G
  refine lv_to (osome2 h).1 ?_
  exact kr28 _ _ _ gr G
def fr_isSignHere_b27  (S : MS)  : Option (Int32 × MS) := fr_isSignHere_b28 S 0
set_option maxHeartbeats 4000000 in
set_option maxRecDepth 100000 in
theorem tr_isSignHere_b27 {p : Program} {l : Launch} {e : Env} {s : State} {m : MethodId} {args : Array Value} {below : List Frame} {meth : Method} {c : Code} {Q : State → Prop} {D : va_G} {A : Nat → Prop} {H0 : Heap} {cI cJ cZ : ClassId} {ad : Nat → Nat} {r1 : Int32} {S1 : MS} (E : mE p c cX12_isSignHere s m args (Cond.code yX12_isSignHere cX12_isSignHere 2 (some .boolean) :: wsM) D cI cJ cZ) (hA : ∀ q : Nat, H0.size ≤ q → A q) (hR : sR s) (hml : c.maxLocals = 2) (kr28 : ∀ (H : Heap) (locs : List Loc) (ls : Array Slot), (r1 = 0 ∨ r1 = 1) → mG D cI cJ cZ ad A H0 H locs S1 → W p l e { frames := 1, cells := 0, slots := 0, locals := 0 } s m args below meth c H locs 0 0 Q (F0 m 28 ls [.int r1])) : ∀ (S : MS) (H : Heap) (locs : List Loc) (ls : Array Slot), fr_isSignHere_b27 S = some (r1, S1) → mG D cI cJ cZ ad A H0 H locs S → lv_has ls 2 [] → W p l e { frames := 1, cells := 0, slots := 0, locals := 0 } s m args below meth c H locs 0 0 Q (F0 m 27 ls []) := by
  have hx := E.1
  have hb := E.2.1
  have hts := E.2.2.1
  have hown := E.2.2.2.1
  have hK := E.2.2.2.2.1
  intro S H locs ls h G hl
  unfold fr_isSignHere_b27 at h
  refine lv_iconst (v := 0) hx hb dX12_isSignHere_27 (by decide) ?_
  have hl := lv_sub hl [] rfl
  exact tr_isSignHere_b28 E hA hR hml kr28 _ _ _ _ _ h G hl
def fr_isSignHere (S : MS) (a0 : Int32) : Option (Int32 × MS) := elet (S.1 5) fun v2 => if v2 = 0 then (elet (S.1 7) fun v4 => if v4 = 4 then (elet (S.1 9) fun v6 => if v6 = a0 then (fr_isSignHere_b28 S 1) else (fr_isSignHere_b27 S)) else (fr_isSignHere_b27 S)) else (fr_isSignHere_b27 S)
set_option maxHeartbeats 4000000 in
set_option maxRecDepth 100000 in
theorem tr_isSignHere (l : Launch) (D : va_G) (cI cJ cZ : ClassId) (ad : Nat → Nat) (S : MS) (a0 : Int32) {r1 : Int32} {S1 : MS} (h : fr_isSignHere S a0 = some (r1, S1)) : mCi l yX12_isSignHere (Cond.code yX12_isSignHere cX12_isSignHere 2 (some .boolean) :: wsM) 1 0 D cI cJ cZ ad S [.int a0] (fun r S9 => r = r1 ∧ S9 = S1) := by
  intro sz
  refine pro_in (cc := cX12_isSignHere) (maxL := 2) (ret := (some .boolean)) (by exact pn_RX12) rfl (by exact Nat.le_of_ble_eq_true rfl) (fun p e s m below meth c ls hx hb hr hts hown hlocks hml hv hl => ?_)
  obtain ⟨hsz, hP, hK, hD0, hR⟩ := hv
  subst hsz
  have hD := hD0.self (sz := s.heap.size)
  generalize hAe : va_A (MW cI cJ cZ ad S) s.heap.size = A at hD ⊢
  have hA : ∀ q : Nat, s.heap.size ≤ q → A q := fun q h => by rw [← hAe]; exact Or.inr h
  have G : mG D cI cJ cZ ad A s.heap s.heap [] S := ⟨hP, hD, va_S.rf⟩
  have E : mE p c cX12_isSignHere s m ([.ref (ad 0), .int a0] : List Value).toArray (Cond.code yX12_isSignHere cX12_isSignHere 2 (some .boolean) :: wsM) D cI cJ cZ := ⟨hx, hb, hts, hown, hK, fun w h => .tail _ (iM_x h)⟩
  have hl : lv_has ls 2 [(0, .ref (ad 0)), (1, .int a0)] := hl
  unfold fr_isSignHere at h
  refine lv_aload_n hx hb dX12_isSignHere_0 rfl (lv_at hl 0 rfl) ?_
  refine m_get E G 5 (v := .int (S.1 5)) (by decide) (.tail _ qM_38) rfl dX12_isSignHere_1 rfl ?_
  refine lv_topi (fun v2 ev2 => ?_)
  have h := elet_at ev2 h
  clear ev2
  refine lv_if_ne (tgt := 27) hx hb dX12_isSignHere_4 (by decide) (fun c3 => ?_) (fun c3 => ?_)
  · have h := oif_neg c3 h
    have hl := lv_sub hl [] rfl
    exact tr_isSignHere_b27 E hA hR hml (fun H locs ls gz G => W.zret (v := r1) hx hb hr (nar01 gz) (fun t ht hW => ⟨⟨r1, S1, rfl, ⟨rfl, rfl⟩, ⟨by rw [ht]; exact G.1, va_K.moved hW.alike hK, G.2.1⟩⟩, G.2.2.F ht⟩) G.2.2.2.2 dX12_isSignHere_28) _ _ _ _ h G hl
  · have h := oif_pos c3 h
    refine lv_aload_n hx hb dX12_isSignHere_7 rfl (lv_at hl 0 rfl) ?_
    refine m_get E G 7 (v := .int (S.1 7)) (by decide) (.tail _ qM_47) rfl dX12_isSignHere_8 rfl ?_
    refine lv_topi (fun v4 ev4 => ?_)
    have h := elet_at ev4 h
    clear ev4
    refine lv_iconst (v := 4) hx hb dX12_isSignHere_11 (by decide) ?_
    refine lv_icmp_ne (tgt := 27) hx hb dX12_isSignHere_12 (by decide) (fun c5 => ?_) (fun c5 => ?_)
    · have h := oif_neg c5 h
      have hl := lv_sub hl [] rfl
      exact tr_isSignHere_b27 E hA hR hml (fun H locs ls gz G => W.zret (v := r1) hx hb hr (nar01 gz) (fun t ht hW => ⟨⟨r1, S1, rfl, ⟨rfl, rfl⟩, ⟨by rw [ht]; exact G.1, va_K.moved hW.alike hK, G.2.1⟩⟩, G.2.2.F ht⟩) G.2.2.2.2 dX12_isSignHere_28) _ _ _ _ h G hl
    · have h := oif_pos c5 h
      refine lv_aload_n hx hb dX12_isSignHere_15 rfl (lv_at hl 0 rfl) ?_
      refine m_get E G 9 (v := .int (S.1 9)) (by decide) (.tail _ qM_48) rfl dX12_isSignHere_16 rfl ?_
      refine lv_topi (fun v6 ev6 => ?_)
      have h := elet_at ev6 h
      clear ev6
      refine lv_iload_n hx hb dX12_isSignHere_19 rfl (lv_at hl 1 rfl) ?_
      refine lv_icmp_ne (tgt := 27) hx hb dX12_isSignHere_20 (by decide) (fun c7 => ?_) (fun c7 => ?_)
      · have h := oif_neg c7 h
        have hl := lv_sub hl [] rfl
        exact tr_isSignHere_b27 E hA hR hml (fun H locs ls gz G => W.zret (v := r1) hx hb hr (nar01 gz) (fun t ht hW => ⟨⟨r1, S1, rfl, ⟨rfl, rfl⟩, ⟨by rw [ht]; exact G.1, va_K.moved hW.alike hK, G.2.1⟩⟩, G.2.2.F ht⟩) G.2.2.2.2 dX12_isSignHere_28) _ _ _ _ h G hl
      · have h := oif_pos c7 h
        refine lv_iconst (v := 1) hx hb dX12_isSignHere_23 (by decide) ?_
        refine lv_goto (tgt := 28) hx hb dX12_isSignHere_24 (by decide) ?_
        have hl := lv_sub hl [] rfl
        exact tr_isSignHere_b28 E hA hR hml (fun H locs ls gz G => W.zret (v := r1) hx hb hr (nar01 gz) (fun t ht hW => ⟨⟨r1, S1, rfl, ⟨rfl, rfl⟩, ⟨by rw [ht]; exact G.1, va_K.moved hW.alike hK, G.2.1⟩⟩, G.2.2.F ht⟩) G.2.2.2.2 dX12_isSignHere_28) _ _ _ _ _ h G hl
def fr_isWord_b31 (tx : Nat × (Nat → Int32))  (S : MS)  : Option (Int32 × MS) := some (0, S)
set_option maxHeartbeats 4000000 in
set_option maxRecDepth 100000 in
theorem tr_isWord_b31 {p : Program} {l : Launch} {e : Env} {s : State} {m : MethodId} {args : Array Value} {below : List Frame} {meth : Method} {c : Code} {Q : State → Prop} {D : va_G} {A : Nat → Prop} {cI cJ cZ : ClassId} {ad : Nat → Nat} {q : Nat} {tx : Nat × (Nat → Int32)} {r1 : Int32} {S1 : MS} (E : mE p c cX12_isWord s m args (Cond.code yX12_isWord cX12_isWord 3 (some .boolean) :: wsM) D cI cJ cZ) (hA : ∀ q : Nat, s.heap.size ≤ q → A q) (hR : sR s) (hml : c.maxLocals = 3) {h0 : Nat} (hA0 : ∀ a : Nat, A a → h0 ≤ a) (hT : sAll h0 s) (hO : sO tx q (fun a => h0 ≤ a) s s.heap) (hC : sT tx) (kr32 : ∀ (H : Heap) (locs : List Loc) (ls : Array Slot), (r1 = 0 ∨ r1 = 1) → mG D cI cJ cZ ad A s.heap H locs S1 → W p l e { frames := 5, cells := 0, slots := 0, locals := 87 } s m args below meth c H locs 0 0 Q (F0 m 32 ls [.int r1])) (kr63 : ∀ (H : Heap) (locs : List Loc) (ls : Array Slot), (r1 = 0 ∨ r1 = 1) → mG D cI cJ cZ ad A s.heap H locs S1 → W p l e { frames := 5, cells := 0, slots := 0, locals := 87 } s m args below meth c H locs 0 0 Q (F0 m 63 ls [.int r1])) (kr71 : ∀ (H : Heap) (locs : List Loc) (ls : Array Slot), (r1 = 0 ∨ r1 = 1) → mG D cI cJ cZ ad A s.heap H locs S1 → W p l e { frames := 5, cells := 0, slots := 0, locals := 87 } s m args below meth c H locs 0 0 Q (F0 m 71 ls [.int r1])) : ∀ (S : MS) (H : Heap) (locs : List Loc) (ls : Array Slot), fr_isWord_b31 tx S = some (r1, S1) → mG D cI cJ cZ ad A s.heap H locs S → lv_has ls 3 [] → W p l e { frames := 5, cells := 0, slots := 0, locals := 87 } s m args below meth c H locs 0 0 Q (F0 m 31 ls []) := by
  have hx := E.1
  have hb := E.2.1
  have hts := E.2.2.1
  have hown := E.2.2.2.1
  have hK := E.2.2.2.2.1
  intro S H locs ls h G hl
  unfold fr_isWord_b31 at h
  refine lv_iconst (v := 0) hx hb dX12_isWord_31 (by decide) ?_
  rw [(osome2 h).2] at G
  refine lv_to (osome2 h).1 ?_
  exact kr32 _ _ _ (.inl ((osome2 h).1).symm) G
def fr_isWord_b35 (tx : Nat × (Nat → Int32))  : Nat → MS → Int32 → Option (Int32 × MS)
  | 0, _, _ => none
  | n + 1, S, l2 => elet (nI tx.1 >>> (0 &&& 31)) fun v3 => if v3 ≤ l2 then (some (1, S)) else (elet (S.1 8) fun v5 => elet (v5 + l2) fun v6 => oif (inb v6 1000 = true) <| elet (S.2.1 1 v6.toNatClampNeg) fun v8 => oif (inb l2 tx.1 = true) <| elet (s_ch (tx.2 l2.toNatClampNeg)) fun v11 => if v8 = v11 then (elet (l2 + Int32.ofInt (1)) fun v13 => fr_isWord_b35 tx n S v13) else (some (0, S)))
set_option maxHeartbeats 4000000 in
set_option maxRecDepth 100000 in
theorem tr_isWord_b35 {p : Program} {l : Launch} {e : Env} {s : State} {m : MethodId} {args : Array Value} {below : List Frame} {meth : Method} {c : Code} {Q : State → Prop} {D : va_G} {A : Nat → Prop} {cI cJ cZ : ClassId} {ad : Nat → Nat} {q : Nat} {tx : Nat × (Nat → Int32)} {r1 : Int32} {S1 : MS} (E : mE p c cX12_isWord s m args (Cond.code yX12_isWord cX12_isWord 3 (some .boolean) :: wsM) D cI cJ cZ) (hA : ∀ q : Nat, s.heap.size ≤ q → A q) (hR : sR s) (hml : c.maxLocals = 3) {h0 : Nat} (hA0 : ∀ a : Nat, A a → h0 ≤ a) (hT : sAll h0 s) (hO : sO tx q (fun a => h0 ≤ a) s s.heap) (hC : sT tx) (kr32 : ∀ (H : Heap) (locs : List Loc) (ls : Array Slot), (r1 = 0 ∨ r1 = 1) → mG D cI cJ cZ ad A s.heap H locs S1 → W p l e { frames := 5, cells := 0, slots := 0, locals := 87 } s m args below meth c H locs 0 0 Q (F0 m 32 ls [.int r1])) (kr63 : ∀ (H : Heap) (locs : List Loc) (ls : Array Slot), (r1 = 0 ∨ r1 = 1) → mG D cI cJ cZ ad A s.heap H locs S1 → W p l e { frames := 5, cells := 0, slots := 0, locals := 87 } s m args below meth c H locs 0 0 Q (F0 m 63 ls [.int r1])) (kr71 : ∀ (H : Heap) (locs : List Loc) (ls : Array Slot), (r1 = 0 ∨ r1 = 1) → mG D cI cJ cZ ad A s.heap H locs S1 → W p l e { frames := 5, cells := 0, slots := 0, locals := 87 } s m args below meth c H locs 0 0 Q (F0 m 71 ls [.int r1])) : ∀ n : Nat, ∀ (S : MS) (H : Heap) (locs : List Loc) (ls : Array Slot) (l2 : Int32), fr_isWord_b35 tx n S l2 = some (r1, S1) → mG D cI cJ cZ ad A s.heap H locs S → lv_has ls 3 [(0, .ref (ad 0)), (1, .ref q), (2, .int l2)] → W p l e { frames := 5, cells := 0, slots := 0, locals := 87 } s m args below meth c H locs 0 0 Q (F0 m 35 ls []) := by
  have hx := E.1
  have hb := E.2.1
  have hts := E.2.2.1
  have hown := E.2.2.2.1
  have hK := E.2.2.2.2.1
  intro n
  induction n with
  | zero =>
    intro S H locs ls l2 h
    have h : (none : Option (Int32 × MS)) = some (r1, S1) := h
    cases h
  | succ n ih =>
    intro S H locs ls l2 h G hl
    unfold fr_isWord_b35 at h
    refine lv_iload_n hx hb dX12_isWord_35 rfl (lv_at hl 2 rfl) ?_
    refine lv_aload_n hx hb dX12_isWord_36 rfl (lv_at hl 1 rfl) ?_
    refine s_callV (As := []) (rest := [.int l2]) ⟨hx, hb, hml, hown, hts⟩ (j_length l (tx := tx) (q := q)) (cwV 0 hts (gmV qM_58 qM_59 qM_60 qM_61 qM_62) rfl rfl rfl (by decide +kernel) ⟨Nat.le_of_ble_eq_true rfl, Nat.le_of_ble_eq_true rfl⟩) (sO.recv hO hA0 G.2.2) (fun _ _ _ _ h => h.blind) (sP.go hO hT.2 hA0 G.2.2) rfl hl.1 rfl (lv_room (Nat.le_of_ble_eq_true rfl)) dX12_isWord_37 ⟨Nat.zero_le _, Nat.zero_le _⟩ (fun r2 hq => ?_)
    refine lv_to hq ?_
    clear hq
    refine lv_topi (fun v3 ev3 => ?_)
    have h := elet_at ev3 h
    clear ev3
    refine lv_icmp_ge (tgt := 70) hx hb dX12_isWord_40 (by decide) (fun c4 => ?_) (fun c4 => ?_)
    · have h := oif_pos c4 h
      refine lv_iconst (v := 1) hx hb dX12_isWord_70 (by decide) ?_
      rw [(osome2 h).2] at G
      refine lv_to (osome2 h).1 ?_
      exact kr71 _ _ _ (.inr ((osome2 h).1).symm) G
    · have h := oif_neg c4 h
      refine lv_aload_n hx hb dX12_isWord_43 rfl (lv_at hl 0 rfl) ?_
      refine m_get E G 1 (v := .ref (ad 1)) (by decide) (.tail _ qM_5) rfl dX12_isWord_44 rfl ?_
      refine lv_aload_n hx hb dX12_isWord_47 rfl (lv_at hl 0 rfl) ?_
      refine m_get E G 8 (v := .int (S.1 8)) (by decide) (.tail _ qM_43) rfl dX12_isWord_48 rfl ?_
      refine lv_topi (fun v5 ev5 => ?_)
      have h := elet_at ev5 h
      clear ev5
      refine lv_iload_n hx hb dX12_isWord_51 rfl (lv_at hl 2 rfl) ?_
      refine lv_iadd hx hb dX12_isWord_52 ?_
      refine lv_topi (fun v6 ev6 => ?_)
      have h := elet_at ev6 h
      clear ev6
      obtain ⟨g7, h⟩ := oif_some h
      refine m_iald E G 1 1 (n := 1000) (k := v6.toNatClampNeg) rfl (inb_k g7).1 (inb_k g7).2 (by decide) dX12_isWord_53 ?_
      refine lv_topi (fun v8 ev8 => ?_)
      have h := elet_at ev8 h
      clear ev8
      refine lv_aload_n hx hb dX12_isWord_54 rfl (lv_at hl 1 rfl) ?_
      refine lv_iload_n hx hb dX12_isWord_55 rfl (lv_at hl 2 rfl) ?_
      obtain ⟨g10, h⟩ := oif_some h
      refine lv_to (inb_k g10).1 ?_
      refine s_callV (As := [.int (nI l2.toNatClampNeg)]) (rest := [.int v8]) ⟨hx, hb, hml, hown, hts⟩ (j_charAt l (tx := tx) (q := q) (inb_k g10).2 hC.1 (hC.2 _ (inb_k g10).2)) (cwV 1 hts (gmV qM_70 qM_71 qM_72 qM_61 qM_73) rfl rfl rfl (by decide +kernel) ⟨Nat.le_of_ble_eq_true rfl, Nat.le_of_ble_eq_true rfl⟩) (sO.recv hO hA0 G.2.2) (fun _ _ _ _ h => h.blind) (sP.go hO hT.2 hA0 G.2.2) rfl hl.1 rfl (lv_room (Nat.le_of_ble_eq_true rfl)) dX12_isWord_56 ⟨Nat.zero_le _, Nat.zero_le _⟩ (fun r9 hq => ?_)
      refine lv_to hq ?_
      clear hq
      refine lv_topi (fun v11 ev11 => ?_)
      have h := elet_at ev11 h
      clear ev11
      refine lv_icmp_eq (tgt := 64) hx hb dX12_isWord_59 (by decide) (fun c12 => ?_) (fun c12 => ?_)
      · have h := oif_pos c12 h
        obtain ⟨v13, ev13, h⟩ := elet_some h
        refine lv_iinc (v := v13) (lv' := [(2, .int v13), (0, .ref (ad 0)), (1, .ref q)]) hx hb dX12_isWord_64 hl (k := 2) rfl ev13.symm (by decide) rfl (fun ls hl => ?_)
        refine lv_goto (tgt := 35) hx hb dX12_isWord_67 (by decide) ?_
        have hl := lv_sub hl [1, 2, 0] rfl
        exact ih _ _ _ _ _ h G hl
      · have h := oif_neg c12 h
        refine lv_iconst (v := 0) hx hb dX12_isWord_62 (by decide) ?_
        rw [(osome2 h).2] at G
        refine lv_to (osome2 h).1 ?_
        exact kr63 _ _ _ (.inl ((osome2 h).1).symm) G
def fr_isWord (S : MS) (tx : Nat × (Nat → Int32))  : Option (Int32 × MS) := elet (S.1 5) fun v2 => if 0 < v2 then (fr_isWord_b31 tx S) else (elet (S.1 7) fun v4 => if v4 = 2 then (elet (S.1 4) fun v6 => elet (S.1 8) fun v7 => elet (v6 - v7) fun v8 => elet (nI tx.1 >>> (0 &&& 31)) fun v10 => if v8 = v10 then (fr_isWord_b35 tx 16384 S 0) else (fr_isWord_b31 tx S)) else (fr_isWord_b31 tx S))
set_option maxHeartbeats 4000000 in
set_option maxRecDepth 100000 in
theorem tr_isWord (l : Launch) (D : va_G) (cI cJ cZ : ClassId) (ad : Nat → Nat) (S : MS) (h0 : Nat) {q : Nat} {tx : Nat × (Nat → Int32)} (hC : sT tx)  {r1 : Int32} {S1 : MS} (h : fr_isWord S tx = some (r1, S1)) : mCiX l yX12_isWord (Cond.code yX12_isWord cX12_isWord 3 (some .boolean) :: wsM) 5 87 D cI cJ cZ ad S [.ref q] (xT1 cI cJ cZ h0 ad S tx q) (fun r S9 => r = r1 ∧ S9 = S1) := by
  intro sz
  refine pro_in (cc := cX12_isWord) (maxL := 3) (ret := (some .boolean)) (by exact pn_RX12) rfl (by exact Nat.le_of_ble_eq_true rfl) (fun p e s m below meth c ls hx hb hr hts hown hlocks hml hv hl => ?_)
  obtain ⟨⟨hsz, hP, hK, hD0, hR⟩, ⟨hA1, hT⟩, hO⟩ := hv
  subst hsz
  have hD := hD0.self (sz := s.heap.size)
  generalize hAe : va_A (MW cI cJ cZ ad S) s.heap.size = A at hD hA1 ⊢
  have hA : ∀ q : Nat, s.heap.size ≤ q → A q := fun q h => by rw [← hAe]; exact Or.inr h
  have G : mG D cI cJ cZ ad A s.heap s.heap [] S := ⟨hP, hD, va_S.rf⟩
  have E : mE p c cX12_isWord s m ([.ref (ad 0), .ref q] : List Value).toArray (Cond.code yX12_isWord cX12_isWord 3 (some .boolean) :: wsM) D cI cJ cZ := ⟨hx, hb, hts, hown, hK, fun w h => .tail _ (iM_x h)⟩
  have hA0 : ∀ a : Nat, A a → h0 ≤ a := hA1
  have hl : lv_has ls 3 [(0, .ref (ad 0)), (1, .ref q)] := hl
  unfold fr_isWord at h
  refine lv_aload_n hx hb dX12_isWord_0 rfl (lv_at hl 0 rfl) ?_
  refine m_get E G 5 (v := .int (S.1 5)) (by decide) (.tail _ qM_38) rfl dX12_isWord_1 rfl ?_
  refine lv_topi (fun v2 ev2 => ?_)
  have h := elet_at ev2 h
  clear ev2
  refine lv_if_gt (tgt := 31) hx hb dX12_isWord_4 (by decide) (fun c3 => ?_) (fun c3 => ?_)
  · have h := oif_pos c3 h
    have hl := lv_sub hl [] rfl
    exact tr_isWord_b31 E hA hR hml hA0 hT hO hC (fun H locs ls gz G => W.zret (v := r1) hx hb hr (nar01 gz) (fun t ht hW => ⟨⟨r1, S1, rfl, ⟨rfl, rfl⟩, ⟨by rw [ht]; exact G.1, va_K.moved hW.alike hK, G.2.1⟩⟩, G.2.2.F ht⟩) G.2.2.2.2 dX12_isWord_32) (fun H locs ls gz G => W.zret (v := r1) hx hb hr (nar01 gz) (fun t ht hW => ⟨⟨r1, S1, rfl, ⟨rfl, rfl⟩, ⟨by rw [ht]; exact G.1, va_K.moved hW.alike hK, G.2.1⟩⟩, G.2.2.F ht⟩) G.2.2.2.2 dX12_isWord_63) (fun H locs ls gz G => W.zret (v := r1) hx hb hr (nar01 gz) (fun t ht hW => ⟨⟨r1, S1, rfl, ⟨rfl, rfl⟩, ⟨by rw [ht]; exact G.1, va_K.moved hW.alike hK, G.2.1⟩⟩, G.2.2.F ht⟩) G.2.2.2.2 dX12_isWord_71) _ _ _ _ h G hl
  · have h := oif_neg c3 h
    refine lv_aload_n hx hb dX12_isWord_7 rfl (lv_at hl 0 rfl) ?_
    refine m_get E G 7 (v := .int (S.1 7)) (by decide) (.tail _ qM_47) rfl dX12_isWord_8 rfl ?_
    refine lv_topi (fun v4 ev4 => ?_)
    have h := elet_at ev4 h
    clear ev4
    refine lv_iconst (v := 2) hx hb dX12_isWord_11 (by decide) ?_
    refine lv_icmp_ne (tgt := 31) hx hb dX12_isWord_12 (by decide) (fun c5 => ?_) (fun c5 => ?_)
    · have h := oif_neg c5 h
      have hl := lv_sub hl [] rfl
      exact tr_isWord_b31 E hA hR hml hA0 hT hO hC (fun H locs ls gz G => W.zret (v := r1) hx hb hr (nar01 gz) (fun t ht hW => ⟨⟨r1, S1, rfl, ⟨rfl, rfl⟩, ⟨by rw [ht]; exact G.1, va_K.moved hW.alike hK, G.2.1⟩⟩, G.2.2.F ht⟩) G.2.2.2.2 dX12_isWord_32) (fun H locs ls gz G => W.zret (v := r1) hx hb hr (nar01 gz) (fun t ht hW => ⟨⟨r1, S1, rfl, ⟨rfl, rfl⟩, ⟨by rw [ht]; exact G.1, va_K.moved hW.alike hK, G.2.1⟩⟩, G.2.2.F ht⟩) G.2.2.2.2 dX12_isWord_63) (fun H locs ls gz G => W.zret (v := r1) hx hb hr (nar01 gz) (fun t ht hW => ⟨⟨r1, S1, rfl, ⟨rfl, rfl⟩, ⟨by rw [ht]; exact G.1, va_K.moved hW.alike hK, G.2.1⟩⟩, G.2.2.F ht⟩) G.2.2.2.2 dX12_isWord_71) _ _ _ _ h G hl
    · have h := oif_pos c5 h
      refine lv_aload_n hx hb dX12_isWord_15 rfl (lv_at hl 0 rfl) ?_
      refine m_get E G 4 (v := .int (S.1 4)) (by decide) (.tail _ qM_46) rfl dX12_isWord_16 rfl ?_
      refine lv_topi (fun v6 ev6 => ?_)
      have h := elet_at ev6 h
      clear ev6
      refine lv_aload_n hx hb dX12_isWord_19 rfl (lv_at hl 0 rfl) ?_
      refine m_get E G 8 (v := .int (S.1 8)) (by decide) (.tail _ qM_43) rfl dX12_isWord_20 rfl ?_
      refine lv_topi (fun v7 ev7 => ?_)
      have h := elet_at ev7 h
      clear ev7
      refine lv_isub hx hb dX12_isWord_23 ?_
      refine lv_topi (fun v8 ev8 => ?_)
      have h := elet_at ev8 h
      clear ev8
      refine lv_aload_n hx hb dX12_isWord_24 rfl (lv_at hl 1 rfl) ?_
      refine s_callV (As := []) (rest := [.int v8]) ⟨hx, hb, hml, hown, hts⟩ (j_length l (tx := tx) (q := q)) (cwV 0 hts (gmV qM_58 qM_59 qM_60 qM_61 qM_62) rfl rfl rfl (by decide +kernel) ⟨Nat.le_of_ble_eq_true rfl, Nat.le_of_ble_eq_true rfl⟩) (sO.recv hO hA0 G.2.2) (fun _ _ _ _ h => h.blind) (sP.go hO hT.2 hA0 G.2.2) rfl hl.1 rfl (lv_room (Nat.le_of_ble_eq_true rfl)) dX12_isWord_25 ⟨Nat.zero_le _, Nat.zero_le _⟩ (fun r9 hq => ?_)
      refine lv_to hq ?_
      clear hq
      refine lv_topi (fun v10 ev10 => ?_)
      have h := elet_at ev10 h
      clear ev10
      refine lv_icmp_eq (tgt := 33) hx hb dX12_isWord_28 (by decide) (fun c11 => ?_) (fun c11 => ?_)
      · have h := oif_pos c11 h
        refine lv_iconst (v := 0) hx hb dX12_isWord_33 (by decide) ?_
        refine lv_istore_n (lv' := [(2, .int 0), (0, .ref (ad 0)), (1, .ref q)]) hx hb dX12_isWord_34 rfl hl (by decide) rfl (fun ls hl => ?_)
        have hl := lv_sub hl [1, 2, 0] rfl
        exact tr_isWord_b35 E hA hR hml hA0 hT hO hC (fun H locs ls gz G => W.zret (v := r1) hx hb hr (nar01 gz) (fun t ht hW => ⟨⟨r1, S1, rfl, ⟨rfl, rfl⟩, ⟨by rw [ht]; exact G.1, va_K.moved hW.alike hK, G.2.1⟩⟩, G.2.2.F ht⟩) G.2.2.2.2 dX12_isWord_32) (fun H locs ls gz G => W.zret (v := r1) hx hb hr (nar01 gz) (fun t ht hW => ⟨⟨r1, S1, rfl, ⟨rfl, rfl⟩, ⟨by rw [ht]; exact G.1, va_K.moved hW.alike hK, G.2.1⟩⟩, G.2.2.F ht⟩) G.2.2.2.2 dX12_isWord_63) (fun H locs ls gz G => W.zret (v := r1) hx hb hr (nar01 gz) (fun t ht hW => ⟨⟨r1, S1, rfl, ⟨rfl, rfl⟩, ⟨by rw [ht]; exact G.1, va_K.moved hW.alike hK, G.2.1⟩⟩, G.2.2.F ht⟩) G.2.2.2.2 dX12_isWord_71) _ _ _ _ _ _ h G hl
      · have h := oif_neg c11 h
        have hl := lv_sub hl [] rfl
        exact tr_isWord_b31 E hA hR hml hA0 hT hO hC (fun H locs ls gz G => W.zret (v := r1) hx hb hr (nar01 gz) (fun t ht hW => ⟨⟨r1, S1, rfl, ⟨rfl, rfl⟩, ⟨by rw [ht]; exact G.1, va_K.moved hW.alike hK, G.2.1⟩⟩, G.2.2.F ht⟩) G.2.2.2.2 dX12_isWord_32) (fun H locs ls gz G => W.zret (v := r1) hx hb hr (nar01 gz) (fun t ht hW => ⟨⟨r1, S1, rfl, ⟨rfl, rfl⟩, ⟨by rw [ht]; exact G.1, va_K.moved hW.alike hK, G.2.1⟩⟩, G.2.2.F ht⟩) G.2.2.2.2 dX12_isWord_63) (fun H locs ls gz G => W.zret (v := r1) hx hb hr (nar01 gz) (fun t ht hW => ⟨⟨r1, S1, rfl, ⟨rfl, rfl⟩, ⟨by rw [ht]; exact G.1, va_K.moved hW.alike hK, G.2.1⟩⟩, G.2.2.F ht⟩) G.2.2.2.2 dX12_isWord_71) _ _ _ _ h G hl
def fr_takes_b14 (tx : Nat × (Nat → Int32))  (S : MS) (l2 : Int32) : Option (Int32 × MS) := oif (l2 = 0 ∨ l2 = 1) <| some (l2, S)
set_option maxHeartbeats 4000000 in
set_option maxRecDepth 100000 in
theorem tr_takes_b14 {p : Program} {l : Launch} {e : Env} {s : State} {m : MethodId} {args : Array Value} {below : List Frame} {meth : Method} {c : Code} {Q : State → Prop} {D : va_G} {A : Nat → Prop} {cI cJ cZ : ClassId} {ad : Nat → Nat} {q : Nat} {tx : Nat × (Nat → Int32)} {r1 : Int32} {S1 : MS} (E : mE p c cX12_takes s m args (Cond.code yX12_takes cX12_takes 3 (some .boolean) :: wsM) D cI cJ cZ) (hA : ∀ q : Nat, s.heap.size ≤ q → A q) (hR : sR s) (hml : c.maxLocals = 3) {h0 : Nat} (hA0 : ∀ a : Nat, A a → h0 ≤ a) (hT : sAll h0 s) (hO : sO tx q (fun a => h0 ≤ a) s s.heap) (hC : sT tx) (kr15 : ∀ (H : Heap) (locs : List Loc) (ls : Array Slot), (r1 = 0 ∨ r1 = 1) → mG D cI cJ cZ ad A s.heap H locs S1 → W p l e { frames := 6, cells := 0, slots := 0, locals := 109 } s m args below meth c H locs 0 0 Q (F0 m 15 ls [.int r1])) : ∀ (S : MS) (H : Heap) (locs : List Loc) (ls : Array Slot) (l2 : Int32), fr_takes_b14 tx S l2 = some (r1, S1) → mG D cI cJ cZ ad A s.heap H locs S → lv_has ls 3 [(2, .int l2)] → W p l e { frames := 6, cells := 0, slots := 0, locals := 109 } s m args below meth c H locs 0 0 Q (F0 m 14 ls []) := by
  have hx := E.1
  have hb := E.2.1
  have hts := E.2.2.1
  have hown := E.2.2.2.1
  have hK := E.2.2.2.2.1
  intro S H locs ls l2 h G hl
  unfold fr_takes_b14 at h
  refine lv_iload_n hx hb dX12_takes_14 rfl (lv_at hl 0 rfl) ?_
  obtain ⟨gz, h⟩ := oif_some h
  have gr : r1 = 0 ∨ r1 = 1 := by rw [← (osome2 h).1]; exact gz
  rw [(osome2 h).2] at G
  refine lv_to (osome2 h).1 ?_
  exact kr15 _ _ _ gr G
def fr_takes (S : MS) (tx : Nat × (Nat → Int32))  : Option (Int32 × MS) := obind2 (fr_isWord S tx) fun r5 S2 => if r5 = 0 then (fr_takes_b14 tx S2 r5) else (obind (fr_nextToken S2) fun S7 => fr_takes_b14 tx S7 r5)
set_option maxHeartbeats 4000000 in
set_option maxRecDepth 100000 in
theorem tr_takes (l : Launch) (D : va_G) (cI cJ cZ : ClassId) (ad : Nat → Nat) (S : MS) (h0 : Nat) {q : Nat} {tx : Nat × (Nat → Int32)} (hC : sT tx)  {r1 : Int32} {S1 : MS} (h : fr_takes S tx = some (r1, S1)) : mCiX l yX12_takes (Cond.code yX12_takes cX12_takes 3 (some .boolean) :: wsM) 6 109 D cI cJ cZ ad S [.ref q] (xT1 cI cJ cZ h0 ad S tx q) (fun r S9 => r = r1 ∧ S9 = S1) := by
  intro sz
  refine pro_in (cc := cX12_takes) (maxL := 3) (ret := (some .boolean)) (by exact pn_RX12) rfl (by exact Nat.le_of_ble_eq_true rfl) (fun p e s m below meth c ls hx hb hr hts hown hlocks hml hv hl => ?_)
  obtain ⟨⟨hsz, hP, hK, hD0, hR⟩, ⟨hA1, hT⟩, hO⟩ := hv
  subst hsz
  have hD := hD0.self (sz := s.heap.size)
  generalize hAe : va_A (MW cI cJ cZ ad S) s.heap.size = A at hD hA1 ⊢
  have hA : ∀ q : Nat, s.heap.size ≤ q → A q := fun q h => by rw [← hAe]; exact Or.inr h
  have G : mG D cI cJ cZ ad A s.heap s.heap [] S := ⟨hP, hD, va_S.rf⟩
  have E : mE p c cX12_takes s m ([.ref (ad 0), .ref q] : List Value).toArray (Cond.code yX12_takes cX12_takes 3 (some .boolean) :: wsM) D cI cJ cZ := ⟨hx, hb, hts, hown, hK, fun w h => .tail _ (iM_x h)⟩
  have hA0 : ∀ a : Nat, A a → h0 ≤ a := hA1
  have hl : lv_has ls 3 [(0, .ref (ad 0)), (1, .ref q)] := hl
  unfold fr_takes at h
  refine lv_aload_n hx hb dX12_takes_0 rfl (lv_at hl 0 rfl) ?_
  refine lv_aload_n hx hb dX12_takes_1 rfl (lv_at hl 1 rfl) ?_
  obtain ⟨r5, S2, eS2, h⟩ := obind2_some h
  refine m_calliX (As := [.ref q]) (rest := []) E G hA hR hml (tr_isWord l D cI cJ cZ ad S h0 (q := q) hC eS2) (cwV 1 hts (gmV qM_108 qM_109 qM_110 qM_35 qM_57) rfl rfl rfl (by decide +kernel) ⟨Nat.le_of_ble_eq_true rfl, Nat.le_of_ble_eq_true rfl⟩) rfl hl.1 rfl (lv_room (Nat.le_of_ble_eq_true rfl)) dX12_takes_2 ⟨Nat.zero_le _, Nat.zero_le _⟩ (xT1.blind) (xT1.go hT hA0 hA G hO) (fun q3 S4 H locs hq G => ?_)
  obtain ⟨hq1, hq2⟩ := hq
  rw [hq2] at G
  refine lv_to hq1 ?_
  clear hq1 hq2 eS2
  refine lv_istore_n (lv' := [(2, .int r5), (0, .ref (ad 0)), (1, .ref q)]) hx hb dX12_takes_5 rfl hl (by decide) rfl (fun ls hl => ?_)
  refine lv_iload_n hx hb dX12_takes_6 rfl (lv_at hl 0 rfl) ?_
  refine lv_if_eq (tgt := 14) hx hb dX12_takes_7 (by decide) (fun c6 => ?_) (fun c6 => ?_)
  · have h := oif_pos c6 h
    have hl := lv_sub hl [0] rfl
    exact tr_takes_b14 E hA hR hml hA0 hT hO hC (fun H locs ls gz G => W.zret (v := r1) hx hb hr (nar01 gz) (fun t ht hW => ⟨⟨r1, S1, rfl, ⟨rfl, rfl⟩, ⟨by rw [ht]; exact G.1, va_K.moved hW.alike hK, G.2.1⟩⟩, G.2.2.F ht⟩) G.2.2.2.2 dX12_takes_15) _ _ _ _ _ h G hl
  · have h := oif_neg c6 h
    refine lv_aload_n hx hb dX12_takes_10 rfl (lv_at hl 1 rfl) ?_
    obtain ⟨S7, eS7, h⟩ := obind_some h
    refine m_callv (As := []) (rest := []) E G hA hR hml (tr_nextToken l D cI cJ cZ ad S2 eS7) (cwV 0 hts (gmV qM_111 qM_112 qM_113 qM_35 qM_45) rfl rfl rfl (by decide +kernel) ⟨Nat.le_of_ble_eq_true rfl, Nat.le_of_ble_eq_true rfl⟩) rfl hl.1 rfl (lv_room (Nat.le_of_ble_eq_true rfl)) dX12_takes_11 ⟨Nat.zero_le _, Nat.zero_le _⟩ (fun S9 H locs hq G => ?_)
    rw [hq] at G
    clear hq eS7
    have hl := lv_sub hl [0] rfl
    exact tr_takes_b14 E hA hR hml hA0 hT hO hC (fun H locs ls gz G => W.zret (v := r1) hx hb hr (nar01 gz) (fun t ht hW => ⟨⟨r1, S1, rfl, ⟨rfl, rfl⟩, ⟨by rw [ht]; exact G.1, va_K.moved hW.alike hK, G.2.1⟩⟩, G.2.2.F ht⟩) G.2.2.2.2 dX12_takes_15) _ _ _ _ _ h G hl
def fr_keyword_b13 (tx : Nat × (Nat → Int32))  (S : MS)  : Option (MS) := some S
set_option maxHeartbeats 4000000 in
set_option maxRecDepth 100000 in
theorem tr_keyword_b13 {p : Program} {l : Launch} {e : Env} {s : State} {m : MethodId} {args : Array Value} {below : List Frame} {meth : Method} {c : Code} {Q : State → Prop} {D : va_G} {A : Nat → Prop} {cI cJ cZ : ClassId} {ad : Nat → Nat} {q : Nat} {tx : Nat × (Nat → Int32)} {S1 : MS} (E : mE p c cX12_keyword s m args (Cond.code yX12_keyword cX12_keyword 2 none :: wsM) D cI cJ cZ) (hA : ∀ q : Nat, s.heap.size ≤ q → A q) (hR : sR s) (hml : c.maxLocals = 2) {h0 : Nat} (hA0 : ∀ a : Nat, A a → h0 ≤ a) (hT : sAll h0 s) (hO : sO tx q (fun a => h0 ≤ a) s s.heap) (hC : sT tx) (kr13 : ∀ (H : Heap) (locs : List Loc) (ls : Array Slot), mG D cI cJ cZ ad A s.heap H locs S1 → W p l e { frames := 7, cells := 0, slots := 0, locals := 131 } s m args below meth c H locs 0 0 Q (F0 m 13 ls [])) : ∀ (S : MS) (H : Heap) (locs : List Loc) (ls : Array Slot), fr_keyword_b13 tx S = some S1 → mG D cI cJ cZ ad A s.heap H locs S → lv_has ls 2 [] → W p l e { frames := 7, cells := 0, slots := 0, locals := 131 } s m args below meth c H locs 0 0 Q (F0 m 13 ls []) := by
  have hx := E.1
  have hb := E.2.1
  have hts := E.2.2.1
  have hown := E.2.2.2.1
  have hK := E.2.2.2.2.1
  intro S H locs ls h G hl
  unfold fr_keyword_b13 at h
  rw [osome1 h] at G
  exact kr13 _ _ _ G
def fr_keyword (S : MS) (tx : Nat × (Nat → Int32))  : Option (MS) := obind2 (fr_takes S tx) fun r5 S2 => if r5 = 0 then (obind (fr_faults S2 1) fun S7 => fr_keyword_b13 tx S7) else (fr_keyword_b13 tx S2)
set_option maxHeartbeats 4000000 in
set_option maxRecDepth 100000 in
theorem tr_keyword (l : Launch) (D : va_G) (cI cJ cZ : ClassId) (ad : Nat → Nat) (S : MS) (h0 : Nat) {q : Nat} {tx : Nat × (Nat → Int32)} (hC : sT tx)  {S1 : MS} (h : fr_keyword S tx = some S1) : mCvX l yX12_keyword (Cond.code yX12_keyword cX12_keyword 2 none :: wsM) 7 131 D cI cJ cZ ad S [.ref q] (xT1 cI cJ cZ h0 ad S tx q) (fun S9 => S9 = S1) := by
  intro sz
  refine pro_in (cc := cX12_keyword) (maxL := 2) (ret := none) (by exact pn_RX12) rfl (by exact Nat.le_of_ble_eq_true rfl) (fun p e s m below meth c ls hx hb hr hts hown hlocks hml hv hl => ?_)
  obtain ⟨⟨hsz, hP, hK, hD0, hR⟩, ⟨hA1, hT⟩, hO⟩ := hv
  subst hsz
  have hD := hD0.self (sz := s.heap.size)
  generalize hAe : va_A (MW cI cJ cZ ad S) s.heap.size = A at hD hA1 ⊢
  have hA : ∀ q : Nat, s.heap.size ≤ q → A q := fun q h => by rw [← hAe]; exact Or.inr h
  have G : mG D cI cJ cZ ad A s.heap s.heap [] S := ⟨hP, hD, va_S.rf⟩
  have E : mE p c cX12_keyword s m ([.ref (ad 0), .ref q] : List Value).toArray (Cond.code yX12_keyword cX12_keyword 2 none :: wsM) D cI cJ cZ := ⟨hx, hb, hts, hown, hK, fun w h => .tail _ (iM_x h)⟩
  have hA0 : ∀ a : Nat, A a → h0 ≤ a := hA1
  have hl : lv_has ls 2 [(0, .ref (ad 0)), (1, .ref q)] := hl
  unfold fr_keyword at h
  refine lv_aload_n hx hb dX12_keyword_0 rfl (lv_at hl 0 rfl) ?_
  refine lv_aload_n hx hb dX12_keyword_1 rfl (lv_at hl 1 rfl) ?_
  obtain ⟨r5, S2, eS2, h⟩ := obind2_some h
  refine m_calliX (As := [.ref q]) (rest := []) E G hA hR hml (tr_takes l D cI cJ cZ ad S h0 (q := q) hC eS2) (cwV 1 hts (gmV qM_115 qM_116 qM_117 qM_35 qM_107) rfl rfl rfl (by decide +kernel) ⟨Nat.le_of_ble_eq_true rfl, Nat.le_of_ble_eq_true rfl⟩) rfl hl.1 rfl (lv_room (Nat.le_of_ble_eq_true rfl)) dX12_keyword_2 ⟨Nat.zero_le _, Nat.zero_le _⟩ (xT1.blind) (xT1.go hT hA0 hA G hO) (fun q3 S4 H locs hq G => ?_)
  obtain ⟨hq1, hq2⟩ := hq
  rw [hq2] at G
  refine lv_to hq1 ?_
  clear hq1 hq2 eS2
  refine lv_if_ne (tgt := 13) hx hb dX12_keyword_5 (by decide) (fun c6 => ?_) (fun c6 => ?_)
  · have h := oif_neg c6 h
    have hl := lv_sub hl [] rfl
    exact tr_keyword_b13 E hA hR hml hA0 hT hO hC (fun H locs ls G => W.vret hx hb hr (fun t ht hW => ⟨⟨S1, rfl, rfl, ⟨by rw [ht]; exact G.1, va_K.moved hW.alike hK, G.2.1⟩⟩, G.2.2.F ht⟩) G.2.2.2.2 dX12_keyword_13) _ _ _ _ h G hl
  · have h := oif_pos c6 h
    refine lv_aload_n hx hb dX12_keyword_8 rfl (lv_at hl 0 rfl) ?_
    refine lv_iconst (v := 1) hx hb dX12_keyword_9 (by decide) ?_
    obtain ⟨S7, eS7, h⟩ := obind_some h
    refine m_callv (As := [.int 1]) (rest := []) E G hA hR hml (tr_faults l D cI cJ cZ ad S2 1 eS7) (cwV 1 hts (gmV qM_118 qM_119 qM_120 qM_35 qM_42) rfl rfl rfl (by decide +kernel) ⟨Nat.le_of_ble_eq_true rfl, Nat.le_of_ble_eq_true rfl⟩) rfl hl.1 rfl (lv_room (Nat.le_of_ble_eq_true rfl)) dX12_keyword_10 ⟨Nat.zero_le _, Nat.zero_le _⟩ (fun S9 H locs hq G => ?_)
    rw [hq] at G
    clear hq eS7
    have hl := lv_sub hl [] rfl
    exact tr_keyword_b13 E hA hR hml hA0 hT hO hC (fun H locs ls G => W.vret hx hb hr (fun t ht hW => ⟨⟨S1, rfl, rfl, ⟨by rw [ht]; exact G.1, va_K.moved hW.alike hK, G.2.1⟩⟩, G.2.2.F ht⟩) G.2.2.2.2 dX12_keyword_13) _ _ _ _ h G hl
def fr_look_b57  (S : MS) (s0 : Int32) : Option (Int32 × MS) := some (s0, S)
set_option maxHeartbeats 4000000 in
set_option maxRecDepth 100000 in
theorem tr_look_b57 {p : Program} {l : Launch} {e : Env} {s : State} {m : MethodId} {args : Array Value} {below : List Frame} {meth : Method} {c : Code} {Q : State → Prop} {D : va_G} {A : Nat → Prop} {H0 : Heap} {cI cJ cZ : ClassId} {ad : Nat → Nat} {r1 : Int32} {S1 : MS} (E : mE p c cX12_look s m args (Cond.code yX12_look cX12_look 3 (some .int) :: wsM) D cI cJ cZ) (hA : ∀ q : Nat, H0.size ≤ q → A q) (hR : sR s) (hml : c.maxLocals = 3) (kr8 : ∀ (H : Heap) (locs : List Loc) (ls : Array Slot), mG D cI cJ cZ ad A H0 H locs S1 → W p l e { frames := 2, cells := 0, slots := 0, locals := 22 } s m args below meth c H locs 0 0 Q (F0 m 8 ls [.int r1])) (kr57 : ∀ (H : Heap) (locs : List Loc) (ls : Array Slot), mG D cI cJ cZ ad A H0 H locs S1 → W p l e { frames := 2, cells := 0, slots := 0, locals := 22 } s m args below meth c H locs 0 0 Q (F0 m 57 ls [.int r1])) : ∀ (S : MS) (H : Heap) (locs : List Loc) (ls : Array Slot) (s0 : Int32), fr_look_b57 S s0 = some (r1, S1) → mG D cI cJ cZ ad A H0 H locs S → lv_has ls 3 [] → W p l e { frames := 2, cells := 0, slots := 0, locals := 22 } s m args below meth c H locs 0 0 Q (F0 m 57 ls [.int s0]) := by
  have hx := E.1
  have hb := E.2.1
  have hts := E.2.2.1
  have hown := E.2.2.2.1
  have hK := E.2.2.2.2.1
  intro S H locs ls s0 h G hl
  unfold fr_look_b57 at h
  rw [(osome2 h).2] at G
  refine lv_to (osome2 h).1 ?_
  exact kr57 _ _ _ G
def fr_look_b42  (S : MS) (l1 : Int32) : Option (Int32 × MS) := elet (S.1 5) fun v2 => if v2 ≤ 0 then (elet (S.1 9) fun v4 => fr_look_b57 S v4) else (fr_look_b57 S l1)
set_option maxHeartbeats 4000000 in
set_option maxRecDepth 100000 in
theorem tr_look_b42 {p : Program} {l : Launch} {e : Env} {s : State} {m : MethodId} {args : Array Value} {below : List Frame} {meth : Method} {c : Code} {Q : State → Prop} {D : va_G} {A : Nat → Prop} {H0 : Heap} {cI cJ cZ : ClassId} {ad : Nat → Nat} {r1 : Int32} {S1 : MS} (E : mE p c cX12_look s m args (Cond.code yX12_look cX12_look 3 (some .int) :: wsM) D cI cJ cZ) (hA : ∀ q : Nat, H0.size ≤ q → A q) (hR : sR s) (hml : c.maxLocals = 3) (kr8 : ∀ (H : Heap) (locs : List Loc) (ls : Array Slot), mG D cI cJ cZ ad A H0 H locs S1 → W p l e { frames := 2, cells := 0, slots := 0, locals := 22 } s m args below meth c H locs 0 0 Q (F0 m 8 ls [.int r1])) (kr57 : ∀ (H : Heap) (locs : List Loc) (ls : Array Slot), mG D cI cJ cZ ad A H0 H locs S1 → W p l e { frames := 2, cells := 0, slots := 0, locals := 22 } s m args below meth c H locs 0 0 Q (F0 m 57 ls [.int r1])) : ∀ (S : MS) (H : Heap) (locs : List Loc) (ls : Array Slot) (l1 : Int32), fr_look_b42 S l1 = some (r1, S1) → mG D cI cJ cZ ad A H0 H locs S → lv_has ls 3 [(0, .ref (ad 0)), (1, .int l1)] → W p l e { frames := 2, cells := 0, slots := 0, locals := 22 } s m args below meth c H locs 0 0 Q (F0 m 42 ls []) := by
  have hx := E.1
  have hb := E.2.1
  have hts := E.2.2.1
  have hown := E.2.2.2.1
  have hK := E.2.2.2.2.1
  intro S H locs ls l1 h G hl
  unfold fr_look_b42 at h
  refine lv_aload_n hx hb dX12_look_42 rfl (lv_at hl 0 rfl) ?_
  refine m_get E G 5 (v := .int (S.1 5)) (by decide) (.tail _ qM_38) rfl dX12_look_43 rfl ?_
  refine lv_topi (fun v2 ev2 => ?_)
  have h := elet_at ev2 h
  clear ev2
  refine lv_if_le (tgt := 53) hx hb dX12_look_46 (by decide) (fun c3 => ?_) (fun c3 => ?_)
  · have h := oif_pos c3 h
    refine lv_aload_n hx hb dX12_look_53 rfl (lv_at hl 0 rfl) ?_
    refine m_get E G 9 (v := .int (S.1 9)) (by decide) (.tail _ qM_48) rfl dX12_look_54 rfl ?_
    refine lv_topi (fun v4 ev4 => ?_)
    have h := elet_at ev4 h
    clear ev4
    have hl := lv_sub hl [] rfl
    exact tr_look_b57 E hA hR hml kr8 kr57 _ _ _ _ _ h G hl
  · have h := oif_neg c3 h
    refine lv_iload_n hx hb dX12_look_49 rfl (lv_at hl 1 rfl) ?_
    refine lv_goto (tgt := 57) hx hb dX12_look_50 (by decide) ?_
    have hl := lv_sub hl [] rfl
    exact tr_look_b57 E hA hR hml kr8 kr57 _ _ _ _ _ h G hl
def fr_look (S : MS) (a0 : Int32) (a1 : Int32) : Option (Int32 × MS) := elet (S.1 5) fun v2 => if v2 ≤ 0 then (elet (S.1 7) fun v4 => if v4 = 3 then (elet (S.1 9) fun v6 => obind (fr_in v6 a0 a1) fun r7 => if r7 = 0 then (obind (fr_faults S 2) fun S10 => fr_look_b42 S10 a0) else (fr_look_b42 S a0)) else (obind (fr_faults S 1) fun S13 => fr_look_b42 S13 a0)) else (some (a0, S))
set_option maxHeartbeats 4000000 in
set_option maxRecDepth 100000 in
theorem tr_look (l : Launch) (D : va_G) (cI cJ cZ : ClassId) (ad : Nat → Nat) (S : MS) (a0 : Int32) (a1 : Int32) {r1 : Int32} {S1 : MS} (h : fr_look S a0 a1 = some (r1, S1)) : mCi l yX12_look (Cond.code yX12_look cX12_look 3 (some .int) :: wsM) 2 22 D cI cJ cZ ad S [.int a0, .int a1] (fun r S9 => r = r1 ∧ S9 = S1) := by
  intro sz
  refine pro_in (cc := cX12_look) (maxL := 3) (ret := (some .int)) (by exact pn_RX12) rfl (by exact Nat.le_of_ble_eq_true rfl) (fun p e s m below meth c ls hx hb hr hts hown hlocks hml hv hl => ?_)
  obtain ⟨hsz, hP, hK, hD0, hR⟩ := hv
  subst hsz
  have hD := hD0.self (sz := s.heap.size)
  generalize hAe : va_A (MW cI cJ cZ ad S) s.heap.size = A at hD ⊢
  have hA : ∀ q : Nat, s.heap.size ≤ q → A q := fun q h => by rw [← hAe]; exact Or.inr h
  have G : mG D cI cJ cZ ad A s.heap s.heap [] S := ⟨hP, hD, va_S.rf⟩
  have E : mE p c cX12_look s m ([.ref (ad 0), .int a0, .int a1] : List Value).toArray (Cond.code yX12_look cX12_look 3 (some .int) :: wsM) D cI cJ cZ := ⟨hx, hb, hts, hown, hK, fun w h => .tail _ (iM_x h)⟩
  have hl : lv_has ls 3 [(0, .ref (ad 0)), (1, .int a0), (2, .int a1)] := hl
  unfold fr_look at h
  refine lv_aload_n hx hb dX12_look_0 rfl (lv_at hl 0 rfl) ?_
  refine m_get E G 5 (v := .int (S.1 5)) (by decide) (.tail _ qM_38) rfl dX12_look_1 rfl ?_
  refine lv_topi (fun v2 ev2 => ?_)
  have h := elet_at ev2 h
  clear ev2
  refine lv_if_le (tgt := 9) hx hb dX12_look_4 (by decide) (fun c3 => ?_) (fun c3 => ?_)
  · have h := oif_pos c3 h
    refine lv_aload_n hx hb dX12_look_9 rfl (lv_at hl 0 rfl) ?_
    refine m_get E G 7 (v := .int (S.1 7)) (by decide) (.tail _ qM_47) rfl dX12_look_10 rfl ?_
    refine lv_topi (fun v4 ev4 => ?_)
    have h := elet_at ev4 h
    clear ev4
    refine lv_iconst (v := 3) hx hb dX12_look_13 (by decide) ?_
    refine lv_icmp_eq (tgt := 25) hx hb dX12_look_14 (by decide) (fun c5 => ?_) (fun c5 => ?_)
    · have h := oif_pos c5 h
      refine lv_aload_n hx hb dX12_look_25 rfl (lv_at hl 0 rfl) ?_
      refine m_get E G 9 (v := .int (S.1 9)) (by decide) (.tail _ qM_48) rfl dX12_look_26 rfl ?_
      refine lv_topi (fun v6 ev6 => ?_)
      have h := elet_at ev6 h
      clear ev6
      refine lv_iload_n hx hb dX12_look_29 rfl (lv_at hl 1 rfl) ?_
      refine lv_iload_n hx hb dX12_look_30 rfl (lv_at hl 2 rfl) ?_
      obtain ⟨r7, er7, h⟩ := obind_some h
      refine m_stat (As := [.int v6, .int a0, .int a1]) (rest := []) ⟨hx, hb, hml, hown, hts⟩ (tr_in l v6 a0 a1 er7) (cwS 3 hts (gmS qM_52 qM_53 qM_35 qM_27) rfl rfl rfl (by decide +kernel) ⟨Nat.le_of_ble_eq_true rfl, Nat.le_of_ble_eq_true rfl⟩) rfl hl.1 rfl (lv_room (Nat.le_of_ble_eq_true rfl)) dX12_look_31 ⟨Nat.zero_le _, Nat.zero_le _⟩ (fun q8 hq => ?_)
      refine lv_to hq ?_
      clear hq er7
      refine lv_if_ne (tgt := 42) hx hb dX12_look_34 (by decide) (fun c9 => ?_) (fun c9 => ?_)
      · have h := oif_neg c9 h
        have hl := lv_sub hl [0, 1] rfl
        exact tr_look_b42 E hA hR hml (fun H locs ls G => W.iret (v := r1) hx hb hr (fun t ht hW => ⟨⟨r1, S1, rfl, ⟨rfl, rfl⟩, ⟨by rw [ht]; exact G.1, va_K.moved hW.alike hK, G.2.1⟩⟩, G.2.2.F ht⟩) G.2.2.2.2 dX12_look_8) (fun H locs ls G => W.iret (v := r1) hx hb hr (fun t ht hW => ⟨⟨r1, S1, rfl, ⟨rfl, rfl⟩, ⟨by rw [ht]; exact G.1, va_K.moved hW.alike hK, G.2.1⟩⟩, G.2.2.F ht⟩) G.2.2.2.2 dX12_look_57) _ _ _ _ _ h G hl
      · have h := oif_pos c9 h
        refine lv_aload_n hx hb dX12_look_37 rfl (lv_at hl 0 rfl) ?_
        refine lv_iconst (v := 2) hx hb dX12_look_38 (by decide) ?_
        obtain ⟨S10, eS10, h⟩ := obind_some h
        refine m_callv (As := [.int 2]) (rest := []) E G hA hR hml (tr_faults l D cI cJ cZ ad S 2 eS10) (cwV 1 hts (gmV qM_118 qM_119 qM_120 qM_35 qM_42) rfl rfl rfl (by decide +kernel) ⟨Nat.le_of_ble_eq_true rfl, Nat.le_of_ble_eq_true rfl⟩) rfl hl.1 rfl (lv_room (Nat.le_of_ble_eq_true rfl)) dX12_look_39 ⟨Nat.zero_le _, Nat.zero_le _⟩ (fun S12 H locs hq G => ?_)
        rw [hq] at G
        clear hq eS10
        have hl := lv_sub hl [0, 1] rfl
        exact tr_look_b42 E hA hR hml (fun H locs ls G => W.iret (v := r1) hx hb hr (fun t ht hW => ⟨⟨r1, S1, rfl, ⟨rfl, rfl⟩, ⟨by rw [ht]; exact G.1, va_K.moved hW.alike hK, G.2.1⟩⟩, G.2.2.F ht⟩) G.2.2.2.2 dX12_look_8) (fun H locs ls G => W.iret (v := r1) hx hb hr (fun t ht hW => ⟨⟨r1, S1, rfl, ⟨rfl, rfl⟩, ⟨by rw [ht]; exact G.1, va_K.moved hW.alike hK, G.2.1⟩⟩, G.2.2.F ht⟩) G.2.2.2.2 dX12_look_57) _ _ _ _ _ h G hl
    · have h := oif_neg c5 h
      refine lv_aload_n hx hb dX12_look_17 rfl (lv_at hl 0 rfl) ?_
      refine lv_iconst (v := 1) hx hb dX12_look_18 (by decide) ?_
      obtain ⟨S13, eS13, h⟩ := obind_some h
      refine m_callv (As := [.int 1]) (rest := []) E G hA hR hml (tr_faults l D cI cJ cZ ad S 1 eS13) (cwV 1 hts (gmV qM_118 qM_119 qM_120 qM_35 qM_42) rfl rfl rfl (by decide +kernel) ⟨Nat.le_of_ble_eq_true rfl, Nat.le_of_ble_eq_true rfl⟩) rfl hl.1 rfl (lv_room (Nat.le_of_ble_eq_true rfl)) dX12_look_19 ⟨Nat.zero_le _, Nat.zero_le _⟩ (fun S15 H locs hq G => ?_)
      rw [hq] at G
      clear hq eS13
      refine lv_goto (tgt := 42) hx hb dX12_look_22 (by decide) ?_
      have hl := lv_sub hl [0, 1] rfl
      exact tr_look_b42 E hA hR hml (fun H locs ls G => W.iret (v := r1) hx hb hr (fun t ht hW => ⟨⟨r1, S1, rfl, ⟨rfl, rfl⟩, ⟨by rw [ht]; exact G.1, va_K.moved hW.alike hK, G.2.1⟩⟩, G.2.2.F ht⟩) G.2.2.2.2 dX12_look_8) (fun H locs ls G => W.iret (v := r1) hx hb hr (fun t ht hW => ⟨⟨r1, S1, rfl, ⟨rfl, rfl⟩, ⟨by rw [ht]; exact G.1, va_K.moved hW.alike hK, G.2.1⟩⟩, G.2.2.F ht⟩) G.2.2.2.2 dX12_look_57) _ _ _ _ _ h G hl
  · have h := oif_neg c3 h
    refine lv_iload_n hx hb dX12_look_7 rfl (lv_at hl 1 rfl) ?_
    exact W.iret (v := a0) hx hb hr (fun t ht hW => ⟨⟨a0, S, rfl, osome2 h, ⟨by rw [ht]; exact G.1, va_K.moved hW.alike hK, G.2.1⟩⟩, G.2.2.F ht⟩) G.2.2.2.2 dX12_look_8
def fr_number (S : MS) (a0 : Int32) (a1 : Int32) : Option (Int32 × MS) := obind2 (fr_look S a0 a1) fun r5 S2 => obind (fr_nextToken S2) fun S6 => some (r5, S6)
set_option maxHeartbeats 4000000 in
set_option maxRecDepth 100000 in
theorem tr_number (l : Launch) (D : va_G) (cI cJ cZ : ClassId) (ad : Nat → Nat) (S : MS) (a0 : Int32) (a1 : Int32) {r1 : Int32} {S1 : MS} (h : fr_number S a0 a1 = some (r1, S1)) : mCi l yX12_number (Cond.code yX12_number cX12_number 4 (some .int) :: wsM) 3 44 D cI cJ cZ ad S [.int a0, .int a1] (fun r S9 => r = r1 ∧ S9 = S1) := by
  intro sz
  refine pro_in (cc := cX12_number) (maxL := 4) (ret := (some .int)) (by exact pn_RX12) rfl (by exact Nat.le_of_ble_eq_true rfl) (fun p e s m below meth c ls hx hb hr hts hown hlocks hml hv hl => ?_)
  obtain ⟨hsz, hP, hK, hD0, hR⟩ := hv
  subst hsz
  have hD := hD0.self (sz := s.heap.size)
  generalize hAe : va_A (MW cI cJ cZ ad S) s.heap.size = A at hD ⊢
  have hA : ∀ q : Nat, s.heap.size ≤ q → A q := fun q h => by rw [← hAe]; exact Or.inr h
  have G : mG D cI cJ cZ ad A s.heap s.heap [] S := ⟨hP, hD, va_S.rf⟩
  have E : mE p c cX12_number s m ([.ref (ad 0), .int a0, .int a1] : List Value).toArray (Cond.code yX12_number cX12_number 4 (some .int) :: wsM) D cI cJ cZ := ⟨hx, hb, hts, hown, hK, fun w h => .tail _ (iM_x h)⟩
  have hl : lv_has ls 4 [(0, .ref (ad 0)), (1, .int a0), (2, .int a1)] := hl
  unfold fr_number at h
  refine lv_aload_n hx hb dX12_number_0 rfl (lv_at hl 0 rfl) ?_
  refine lv_iload_n hx hb dX12_number_1 rfl (lv_at hl 1 rfl) ?_
  refine lv_iload_n hx hb dX12_number_2 rfl (lv_at hl 2 rfl) ?_
  obtain ⟨r5, S2, eS2, h⟩ := obind2_some h
  refine m_calli (As := [.int a0, .int a1]) (rest := []) E G hA hR hml (tr_look l D cI cJ cZ ad S a0 a1 eS2) (cwV 2 hts (gmV qM_123 qM_124 qM_125 qM_35 qM_121) rfl rfl rfl (by decide +kernel) ⟨Nat.le_of_ble_eq_true rfl, Nat.le_of_ble_eq_true rfl⟩) rfl hl.1 rfl (lv_room (Nat.le_of_ble_eq_true rfl)) dX12_number_3 ⟨Nat.zero_le _, Nat.zero_le _⟩ (fun q3 S4 H locs hq G => ?_)
  obtain ⟨hq1, hq2⟩ := hq
  rw [hq2] at G
  refine lv_to hq1 ?_
  clear hq1 hq2 eS2
  refine lv_istore_n (lv' := [(3, .int r5), (0, .ref (ad 0)), (1, .int a0), (2, .int a1)]) hx hb dX12_number_6 rfl hl (by decide) rfl (fun ls hl => ?_)
  refine lv_aload_n hx hb dX12_number_7 rfl (lv_at hl 1 rfl) ?_
  obtain ⟨S6, eS6, h⟩ := obind_some h
  refine m_callv (As := []) (rest := []) E G hA hR hml (tr_nextToken l D cI cJ cZ ad S2 eS6) (cwV 0 hts (gmV qM_111 qM_112 qM_113 qM_35 qM_45) rfl rfl rfl (by decide +kernel) ⟨Nat.le_of_ble_eq_true rfl, Nat.le_of_ble_eq_true rfl⟩) rfl hl.1 rfl (lv_room (Nat.le_of_ble_eq_true rfl)) dX12_number_8 ⟨Nat.zero_le _, Nat.zero_le _⟩ (fun S8 H locs hq G => ?_)
  rw [hq] at G
  clear hq eS6
  refine lv_iload_n hx hb dX12_number_11 rfl (lv_at hl 0 rfl) ?_
  exact W.iret (v := r5) hx hb hr (fun t ht hW => ⟨⟨r5, S6, rfl, osome2 h, ⟨by rw [ht]; exact G.1, va_K.moved hW.alike hK, G.2.1⟩⟩, G.2.2.F ht⟩) G.2.2.2.2 dX12_number_12
def fr_gauge (S : MS) (tx : Nat × (Nat → Int32)) (a1 : Int32) (a2 : Int32) : Option (Int32 × MS) := obind (fr_keyword S tx) fun S2 => obind2 (fr_number S2 a1 a2) fun r8 S5 => some (r8, S5)
set_option maxHeartbeats 4000000 in
set_option maxRecDepth 100000 in
theorem tr_gauge (l : Launch) (D : va_G) (cI cJ cZ : ClassId) (ad : Nat → Nat) (S : MS) (h0 : Nat) {q : Nat} {tx : Nat × (Nat → Int32)} (hC : sT tx) (a1 : Int32) (a2 : Int32) {r1 : Int32} {S1 : MS} (h : fr_gauge S tx a1 a2 = some (r1, S1)) : mCiX l yX12_gauge (Cond.code yX12_gauge cX12_gauge 4 (some .int) :: wsM) 8 152 D cI cJ cZ ad S [.ref q, .int a1, .int a2] (xT1 cI cJ cZ h0 ad S tx q) (fun r S9 => r = r1 ∧ S9 = S1) := by
  intro sz
  refine pro_in (cc := cX12_gauge) (maxL := 4) (ret := (some .int)) (by exact pn_RX12) rfl (by exact Nat.le_of_ble_eq_true rfl) (fun p e s m below meth c ls hx hb hr hts hown hlocks hml hv hl => ?_)
  obtain ⟨⟨hsz, hP, hK, hD0, hR⟩, ⟨hA1, hT⟩, hO⟩ := hv
  subst hsz
  have hD := hD0.self (sz := s.heap.size)
  generalize hAe : va_A (MW cI cJ cZ ad S) s.heap.size = A at hD hA1 ⊢
  have hA : ∀ q : Nat, s.heap.size ≤ q → A q := fun q h => by rw [← hAe]; exact Or.inr h
  have G : mG D cI cJ cZ ad A s.heap s.heap [] S := ⟨hP, hD, va_S.rf⟩
  have E : mE p c cX12_gauge s m ([.ref (ad 0), .ref q, .int a1, .int a2] : List Value).toArray (Cond.code yX12_gauge cX12_gauge 4 (some .int) :: wsM) D cI cJ cZ := ⟨hx, hb, hts, hown, hK, fun w h => .tail _ (iM_x h)⟩
  have hA0 : ∀ a : Nat, A a → h0 ≤ a := hA1
  have hl : lv_has ls 4 [(0, .ref (ad 0)), (1, .ref q), (2, .int a1), (3, .int a2)] := hl
  unfold fr_gauge at h
  refine lv_aload_n hx hb dX12_gauge_0 rfl (lv_at hl 0 rfl) ?_
  refine lv_aload_n hx hb dX12_gauge_1 rfl (lv_at hl 1 rfl) ?_
  obtain ⟨S2, eS2, h⟩ := obind_some h
  refine m_callvX (As := [.ref q]) (rest := []) E G hA hR hml (tr_keyword l D cI cJ cZ ad S h0 (q := q) hC eS2) (cwV 1 hts (gmV qM_127 qM_128 qM_129 qM_35 qM_114) rfl rfl rfl (by decide +kernel) ⟨Nat.le_of_ble_eq_true rfl, Nat.le_of_ble_eq_true rfl⟩) rfl hl.1 rfl (lv_room (Nat.le_of_ble_eq_true rfl)) dX12_gauge_2 ⟨Nat.zero_le _, Nat.zero_le _⟩ (xT1.blind) (xT1.go hT hA0 hA G hO) (fun S4 H locs hq G => ?_)
  rw [hq] at G
  clear hq eS2
  refine lv_aload_n hx hb dX12_gauge_5 rfl (lv_at hl 0 rfl) ?_
  refine lv_iload_n hx hb dX12_gauge_6 rfl (lv_at hl 2 rfl) ?_
  refine lv_iload_n hx hb dX12_gauge_7 rfl (lv_at hl 3 rfl) ?_
  obtain ⟨r8, S5, eS5, h⟩ := obind2_some h
  refine m_calli (As := [.int a1, .int a2]) (rest := []) E G hA hR hml (tr_number l D cI cJ cZ ad S2 a1 a2 eS5) (cwV 2 hts (gmV qM_130 qM_131 qM_132 qM_35 qM_122) rfl rfl rfl (by decide +kernel) ⟨Nat.le_of_ble_eq_true rfl, Nat.le_of_ble_eq_true rfl⟩) rfl hl.1 rfl (lv_room (Nat.le_of_ble_eq_true rfl)) dX12_gauge_8 ⟨Nat.zero_le _, Nat.zero_le _⟩ (fun q6 S7 H locs hq G => ?_)
  obtain ⟨hq1, hq2⟩ := hq
  rw [hq2] at G
  refine lv_to hq1 ?_
  clear hq1 hq2 eS5
  exact W.iret (v := r8) hx hb hr (fun t ht hW => ⟨⟨r8, S5, rfl, osome2 h, ⟨by rw [ht]; exact G.1, va_K.moved hW.alike hK, G.2.1⟩⟩, G.2.2.F ht⟩) G.2.2.2.2 dX12_gauge_11
def fr_signed_b37  (S : MS) (s0 : Int32) : Option (Int32 × MS) := some (s0, S)
set_option maxHeartbeats 4000000 in
set_option maxRecDepth 100000 in
theorem tr_signed_b37 {p : Program} {l : Launch} {e : Env} {s : State} {m : MethodId} {args : Array Value} {below : List Frame} {meth : Method} {c : Code} {Q : State → Prop} {D : va_G} {A : Nat → Prop} {H0 : Heap} {cI cJ cZ : ClassId} {ad : Nat → Nat} {r1 : Int32} {S1 : MS} (E : mE p c cX12_signed s m args (Cond.code yX12_signed cX12_signed 4 (some .int) :: wsM) D cI cJ cZ) (hA : ∀ q : Nat, H0.size ≤ q → A q) (hR : sR s) (hml : c.maxLocals = 4) (kr37 : ∀ (H : Heap) (locs : List Loc) (ls : Array Slot), mG D cI cJ cZ ad A H0 H locs S1 → W p l e { frames := 4, cells := 0, slots := 0, locals := 67 } s m args below meth c H locs 0 0 Q (F0 m 37 ls [.int r1])) : ∀ (S : MS) (H : Heap) (locs : List Loc) (ls : Array Slot) (s0 : Int32), fr_signed_b37 S s0 = some (r1, S1) → mG D cI cJ cZ ad A H0 H locs S → lv_has ls 4 [] → W p l e { frames := 4, cells := 0, slots := 0, locals := 67 } s m args below meth c H locs 0 0 Q (F0 m 37 ls [.int s0]) := by
  have hx := E.1
  have hb := E.2.1
  have hts := E.2.2.1
  have hown := E.2.2.2.1
  have hK := E.2.2.2.2.1
  intro S H locs ls s0 h G hl
  unfold fr_signed_b37 at h
  rw [(osome2 h).2] at G
  refine lv_to (osome2 h).1 ?_
  exact kr37 _ _ _ G
def fr_signed_b15  (S : MS) (l1 : Int32) (l2 : Int32) (l3 : Int32) : Option (Int32 × MS) := if l3 = 0 then (obind2 (fr_number S l1 l2) fun r6 S3 => fr_signed_b37 S3 r6) else (elet (-l2) fun v7 => elet (-l1) fun v8 => obind2 (fr_number S v7 v8) fun r12 S9 => elet (-r12) fun v13 => fr_signed_b37 S9 v13)
set_option maxHeartbeats 4000000 in
set_option maxRecDepth 100000 in
theorem tr_signed_b15 {p : Program} {l : Launch} {e : Env} {s : State} {m : MethodId} {args : Array Value} {below : List Frame} {meth : Method} {c : Code} {Q : State → Prop} {D : va_G} {A : Nat → Prop} {H0 : Heap} {cI cJ cZ : ClassId} {ad : Nat → Nat} {r1 : Int32} {S1 : MS} (E : mE p c cX12_signed s m args (Cond.code yX12_signed cX12_signed 4 (some .int) :: wsM) D cI cJ cZ) (hA : ∀ q : Nat, H0.size ≤ q → A q) (hR : sR s) (hml : c.maxLocals = 4) (kr37 : ∀ (H : Heap) (locs : List Loc) (ls : Array Slot), mG D cI cJ cZ ad A H0 H locs S1 → W p l e { frames := 4, cells := 0, slots := 0, locals := 67 } s m args below meth c H locs 0 0 Q (F0 m 37 ls [.int r1])) : ∀ (S : MS) (H : Heap) (locs : List Loc) (ls : Array Slot) (l1 : Int32) (l2 : Int32) (l3 : Int32), fr_signed_b15 S l1 l2 l3 = some (r1, S1) → mG D cI cJ cZ ad A H0 H locs S → lv_has ls 4 [(0, .ref (ad 0)), (1, .int l1), (2, .int l2), (3, .int l3)] → W p l e { frames := 4, cells := 0, slots := 0, locals := 67 } s m args below meth c H locs 0 0 Q (F0 m 15 ls []) := by
  have hx := E.1
  have hb := E.2.1
  have hts := E.2.2.1
  have hown := E.2.2.2.1
  have hK := E.2.2.2.2.1
  intro S H locs ls l1 l2 l3 h G hl
  unfold fr_signed_b15 at h
  refine lv_iload_n hx hb dX12_signed_15 rfl (lv_at hl 3 rfl) ?_
  refine lv_if_eq (tgt := 31) hx hb dX12_signed_16 (by decide) (fun c2 => ?_) (fun c2 => ?_)
  · have h := oif_pos c2 h
    refine lv_aload_n hx hb dX12_signed_31 rfl (lv_at hl 0 rfl) ?_
    refine lv_iload_n hx hb dX12_signed_32 rfl (lv_at hl 1 rfl) ?_
    refine lv_iload_n hx hb dX12_signed_33 rfl (lv_at hl 2 rfl) ?_
    obtain ⟨r6, S3, eS3, h⟩ := obind2_some h
    refine m_calli (As := [.int l1, .int l2]) (rest := []) E G hA hR hml (tr_number l D cI cJ cZ ad S l1 l2 eS3) (cwV 2 hts (gmV qM_130 qM_131 qM_132 qM_35 qM_122) rfl rfl rfl (by decide +kernel) ⟨Nat.le_of_ble_eq_true rfl, Nat.le_of_ble_eq_true rfl⟩) rfl hl.1 rfl (lv_room (Nat.le_of_ble_eq_true rfl)) dX12_signed_34 ⟨Nat.zero_le _, Nat.zero_le _⟩ (fun q4 S5 H locs hq G => ?_)
    obtain ⟨hq1, hq2⟩ := hq
    rw [hq2] at G
    refine lv_to hq1 ?_
    clear hq1 hq2 eS3
    have hl := lv_sub hl [] rfl
    exact tr_signed_b37 E hA hR hml kr37 _ _ _ _ _ h G hl
  · have h := oif_neg c2 h
    refine lv_aload_n hx hb dX12_signed_19 rfl (lv_at hl 0 rfl) ?_
    refine lv_iload_n hx hb dX12_signed_20 rfl (lv_at hl 2 rfl) ?_
    refine lv_ineg hx hb dX12_signed_21 ?_
    refine lv_topi (fun v7 ev7 => ?_)
    have h := elet_at ev7 h
    clear ev7
    refine lv_iload_n hx hb dX12_signed_22 rfl (lv_at hl 1 rfl) ?_
    refine lv_ineg hx hb dX12_signed_23 ?_
    refine lv_topi (fun v8 ev8 => ?_)
    have h := elet_at ev8 h
    clear ev8
    obtain ⟨r12, S9, eS9, h⟩ := obind2_some h
    refine m_calli (As := [.int v7, .int v8]) (rest := []) E G hA hR hml (tr_number l D cI cJ cZ ad S v7 v8 eS9) (cwV 2 hts (gmV qM_130 qM_131 qM_132 qM_35 qM_122) rfl rfl rfl (by decide +kernel) ⟨Nat.le_of_ble_eq_true rfl, Nat.le_of_ble_eq_true rfl⟩) rfl hl.1 rfl (lv_room (Nat.le_of_ble_eq_true rfl)) dX12_signed_24 ⟨Nat.zero_le _, Nat.zero_le _⟩ (fun q10 S11 H locs hq G => ?_)
    obtain ⟨hq1, hq2⟩ := hq
    rw [hq2] at G
    refine lv_to hq1 ?_
    clear hq1 hq2 eS9
    refine lv_ineg hx hb dX12_signed_27 ?_
    refine lv_topi (fun v13 ev13 => ?_)
    have h := elet_at ev13 h
    clear ev13
    refine lv_goto (tgt := 37) hx hb dX12_signed_28 (by decide) ?_
    have hl := lv_sub hl [] rfl
    exact tr_signed_b37 E hA hR hml kr37 _ _ _ _ _ h G hl
def fr_signed (S : MS) (a0 : Int32) (a1 : Int32) : Option (Int32 × MS) := obind2 (fr_isSignHere S 45) fun r5 S2 => if r5 = 0 then (fr_signed_b15 S2 a0 a1 r5) else (obind (fr_nextToken S2) fun S7 => fr_signed_b15 S7 a0 a1 r5)
set_option maxHeartbeats 4000000 in
set_option maxRecDepth 100000 in
theorem tr_signed (l : Launch) (D : va_G) (cI cJ cZ : ClassId) (ad : Nat → Nat) (S : MS) (a0 : Int32) (a1 : Int32) {r1 : Int32} {S1 : MS} (h : fr_signed S a0 a1 = some (r1, S1)) : mCi l yX12_signed (Cond.code yX12_signed cX12_signed 4 (some .int) :: wsM) 4 67 D cI cJ cZ ad S [.int a0, .int a1] (fun r S9 => r = r1 ∧ S9 = S1) := by
  intro sz
  refine pro_in (cc := cX12_signed) (maxL := 4) (ret := (some .int)) (by exact pn_RX12) rfl (by exact Nat.le_of_ble_eq_true rfl) (fun p e s m below meth c ls hx hb hr hts hown hlocks hml hv hl => ?_)
  obtain ⟨hsz, hP, hK, hD0, hR⟩ := hv
  subst hsz
  have hD := hD0.self (sz := s.heap.size)
  generalize hAe : va_A (MW cI cJ cZ ad S) s.heap.size = A at hD ⊢
  have hA : ∀ q : Nat, s.heap.size ≤ q → A q := fun q h => by rw [← hAe]; exact Or.inr h
  have G : mG D cI cJ cZ ad A s.heap s.heap [] S := ⟨hP, hD, va_S.rf⟩
  have E : mE p c cX12_signed s m ([.ref (ad 0), .int a0, .int a1] : List Value).toArray (Cond.code yX12_signed cX12_signed 4 (some .int) :: wsM) D cI cJ cZ := ⟨hx, hb, hts, hown, hK, fun w h => .tail _ (iM_x h)⟩
  have hl : lv_has ls 4 [(0, .ref (ad 0)), (1, .int a0), (2, .int a1)] := hl
  unfold fr_signed at h
  refine lv_aload_n hx hb dX12_signed_0 rfl (lv_at hl 0 rfl) ?_
  refine lv_bipush (v := 45) hx hb dX12_signed_1 (by decide) ?_
  obtain ⟨r5, S2, eS2, h⟩ := obind2_some h
  refine m_calli (As := [.int 45]) (rest := []) E G hA hR hml (tr_isSignHere l D cI cJ cZ ad S 45 eS2) (cwV 1 hts (gmV qM_134 qM_135 qM_136 qM_35 qM_56) rfl rfl rfl (by decide +kernel) ⟨Nat.le_of_ble_eq_true rfl, Nat.le_of_ble_eq_true rfl⟩) rfl hl.1 rfl (lv_room (Nat.le_of_ble_eq_true rfl)) dX12_signed_3 ⟨Nat.zero_le _, Nat.zero_le _⟩ (fun q3 S4 H locs hq G => ?_)
  obtain ⟨hq1, hq2⟩ := hq
  rw [hq2] at G
  refine lv_to hq1 ?_
  clear hq1 hq2 eS2
  refine lv_istore_n (lv' := [(3, .int r5), (0, .ref (ad 0)), (1, .int a0), (2, .int a1)]) hx hb dX12_signed_6 rfl hl (by decide) rfl (fun ls hl => ?_)
  refine lv_iload_n hx hb dX12_signed_7 rfl (lv_at hl 0 rfl) ?_
  refine lv_if_eq (tgt := 15) hx hb dX12_signed_8 (by decide) (fun c6 => ?_) (fun c6 => ?_)
  · have h := oif_pos c6 h
    have hl := lv_sub hl [1, 2, 3, 0] rfl
    exact tr_signed_b15 E hA hR hml (fun H locs ls G => W.iret (v := r1) hx hb hr (fun t ht hW => ⟨⟨r1, S1, rfl, ⟨rfl, rfl⟩, ⟨by rw [ht]; exact G.1, va_K.moved hW.alike hK, G.2.1⟩⟩, G.2.2.F ht⟩) G.2.2.2.2 dX12_signed_37) _ _ _ _ _ _ _ h G hl
  · have h := oif_neg c6 h
    refine lv_aload_n hx hb dX12_signed_11 rfl (lv_at hl 1 rfl) ?_
    obtain ⟨S7, eS7, h⟩ := obind_some h
    refine m_callv (As := []) (rest := []) E G hA hR hml (tr_nextToken l D cI cJ cZ ad S2 eS7) (cwV 0 hts (gmV qM_111 qM_112 qM_113 qM_35 qM_45) rfl rfl rfl (by decide +kernel) ⟨Nat.le_of_ble_eq_true rfl, Nat.le_of_ble_eq_true rfl⟩) rfl hl.1 rfl (lv_room (Nat.le_of_ble_eq_true rfl)) dX12_signed_12 ⟨Nat.zero_le _, Nat.zero_le _⟩ (fun S9 H locs hq G => ?_)
    rw [hq] at G
    clear hq eS7
    have hl := lv_sub hl [1, 2, 3, 0] rfl
    exact tr_signed_b15 E hA hR hml (fun H locs ls G => W.iret (v := r1) hx hb hr (fun t ht hW => ⟨⟨r1, S1, rfl, ⟨rfl, rfl⟩, ⟨by rw [ht]; exact G.1, va_K.moved hW.alike hK, G.2.1⟩⟩, G.2.2.F ht⟩) G.2.2.2.2 dX12_signed_37) _ _ _ _ _ _ _ h G hl
def fr_readFirst (S : MS)  : Option (MS) := obind (fr_keyword S (sTx "camera")) fun S3 => obind2 (fr_gauge S3 (sTx "distance") 100 5000) fun r10 S7 => elet (mf S7 11 (upd (S7.2.1 11) 0 r10)) fun S11 => obind2 (fr_gauge S11 (sTx "step") 1 99) fun r16 S13 => elet (mf S13 11 (upd (S13.2.1 11) 1 r16)) fun S17 => obind2 (fr_gauge S17 (sTx "samples") 32 200) fun r22 S19 => elet (mf S19 11 (upd (S19.2.1 11) 2 r22)) fun S23 => obind2 (fr_gauge S23 (sTx "limit") 1 9999) fun r28 S25 => elet (mf S25 11 (upd (S25.2.1 11) 3 r28)) fun S29 => some S29
set_option maxHeartbeats 4000000 in
set_option maxRecDepth 100000 in
theorem tr_readFirst (l : Launch) (D : va_G) (cI cJ cZ : ClassId) (ad : Nat → Nat) (S : MS) (h0 : Nat)  {S1 : MS} (h : fr_readFirst S = some S1) : mCvX l yX12_readFirst (Cond.code yX12_readFirst cX12_readFirst 1 none :: wsM) 9 175 D cI cJ cZ ad S [] (xT0 cI cJ cZ h0 ad S) (fun S9 => S9 = S1) := by
  intro sz
  refine pro_in (cc := cX12_readFirst) (maxL := 1) (ret := none) (by exact pn_RX12) rfl (by exact Nat.le_of_ble_eq_true rfl) (fun p e s m below meth c ls hx hb hr hts hown hlocks hml hv hl => ?_)
  obtain ⟨⟨hsz, hP, hK, hD0, hR⟩, hA1, hT⟩ := hv
  subst hsz
  have hD := hD0.self (sz := s.heap.size)
  generalize hAe : va_A (MW cI cJ cZ ad S) s.heap.size = A at hD hA1 ⊢
  have hA : ∀ q : Nat, s.heap.size ≤ q → A q := fun q h => by rw [← hAe]; exact Or.inr h
  have G : mG D cI cJ cZ ad A s.heap s.heap [] S := ⟨hP, hD, va_S.rf⟩
  have E : mE p c cX12_readFirst s m ([.ref (ad 0)] : List Value).toArray (Cond.code yX12_readFirst cX12_readFirst 1 none :: wsM) D cI cJ cZ := ⟨hx, hb, hts, hown, hK, fun w h => .tail _ (iM_x h)⟩
  have hA0 : ∀ a : Nat, A a → h0 ≤ a := hA1
  have hl : lv_has ls 1 [(0, .ref (ad 0))] := hl
  unfold fr_readFirst at h
  refine lv_aload_n hx hb dX12_readFirst_0 rfl (lv_at hl 0 rfl) ?_
  obtain ⟨w2, hw2, ow2⟩ := hT.1 ("AcousticCameraModel", 144, "camera") (List.mem_of_getElem? (i := 20) rfl)
  refine va_ldcS hx hb hown hw2 dX12_readFirst_1 ?_
  obtain ⟨S3, eS3, h⟩ := obind_some h
  refine m_callvX (As := [.ref w2]) (rest := []) E G hA hR hml (tr_keyword l D cI cJ cZ ad S h0 (q := w2) (sTx_ok (by decide +kernel)) eS3) (cwV 1 hts (gmV qM_127 qM_128 qM_129 qM_35 qM_114) rfl rfl rfl (by decide +kernel) ⟨Nat.le_of_ble_eq_true rfl, Nat.le_of_ble_eq_true rfl⟩) rfl hl.1 rfl (lv_room (Nat.le_of_ble_eq_true rfl)) dX12_readFirst_3 ⟨Nat.zero_le _, Nat.zero_le _⟩ (xT1.blind) (xT1.go hT hA0 hA G ow2) (fun S5 H locs hq G => ?_)
  rw [hq] at G
  clear hq eS3
  refine lv_aload_n hx hb dX12_readFirst_6 rfl (lv_at hl 0 rfl) ?_
  refine m_get E G 11 (v := .ref (ad 11)) (by decide) (.tail _ qM_8) rfl dX12_readFirst_7 rfl ?_
  refine lv_iconst (v := 0) hx hb dX12_readFirst_10 (by decide) ?_
  refine lv_aload_n hx hb dX12_readFirst_11 rfl (lv_at hl 0 rfl) ?_
  obtain ⟨w6, hw6, ow6⟩ := hT.1 ("AcousticCameraModel", 146, "distance") (List.mem_of_getElem? (i := 21) rfl)
  refine va_ldcS hx hb hown hw6 dX12_readFirst_12 ?_
  refine lv_bipush (v := 100) hx hb dX12_readFirst_14 (by decide) ?_
  refine lv_sipush (v := 5000) hx hb dX12_readFirst_16 (by decide) ?_
  obtain ⟨r10, S7, eS7, h⟩ := obind2_some h
  refine m_calliX (As := [.ref w6, .int 100, .int 5000]) (rest := [.int 0, .ref (ad 11)]) E G hA hR hml (tr_gauge l D cI cJ cZ ad S3 h0 (q := w6) (sTx_ok (by decide +kernel)) 100 5000 eS7) (cwV 3 hts (gmV qM_138 qM_139 qM_140 qM_35 qM_126) rfl rfl rfl (by decide +kernel) ⟨Nat.le_of_ble_eq_true rfl, Nat.le_of_ble_eq_true rfl⟩) rfl hl.1 rfl (lv_room (Nat.le_of_ble_eq_true rfl)) dX12_readFirst_19 ⟨Nat.zero_le _, Nat.zero_le _⟩ (xT1.blind) (xT1.go hT hA0 hA G ow6) (fun q8 S9 H locs hq G => ?_)
  obtain ⟨hq1, hq2⟩ := hq
  rw [hq2] at G
  refine lv_to hq1 ?_
  clear hq1 hq2 eS7
  refine m_iast E G 11 3 (k := 0) (v := r10) rfl (fun _ => rfl) rfl (by decide) (by decide) dX12_readFirst_22 (fun H locs G => ?_)
  obtain ⟨S11, eS11, h⟩ := elet_some h
  rw [← eS11] at G
  clear eS11
  refine lv_aload_n hx hb dX12_readFirst_23 rfl (lv_at hl 0 rfl) ?_
  refine m_get E G 11 (v := .ref (ad 11)) (by decide) (.tail _ qM_8) rfl dX12_readFirst_24 rfl ?_
  refine lv_iconst (v := 1) hx hb dX12_readFirst_27 (by decide) ?_
  refine lv_aload_n hx hb dX12_readFirst_28 rfl (lv_at hl 0 rfl) ?_
  obtain ⟨w12, hw12, ow12⟩ := hT.1 ("AcousticCameraModel", 152, "step") (List.mem_of_getElem? (i := 22) rfl)
  refine va_ldcS hx hb hown hw12 dX12_readFirst_29 ?_
  refine lv_iconst (v := 1) hx hb dX12_readFirst_31 (by decide) ?_
  refine lv_bipush (v := 99) hx hb dX12_readFirst_32 (by decide) ?_
  obtain ⟨r16, S13, eS13, h⟩ := obind2_some h
  refine m_calliX (As := [.ref w12, .int 1, .int 99]) (rest := [.int 1, .ref (ad 11)]) E G hA hR hml (tr_gauge l D cI cJ cZ ad S11 h0 (q := w12) (sTx_ok (by decide +kernel)) 1 99 eS13) (cwV 3 hts (gmV qM_138 qM_139 qM_140 qM_35 qM_126) rfl rfl rfl (by decide +kernel) ⟨Nat.le_of_ble_eq_true rfl, Nat.le_of_ble_eq_true rfl⟩) rfl hl.1 rfl (lv_room (Nat.le_of_ble_eq_true rfl)) dX12_readFirst_34 ⟨Nat.zero_le _, Nat.zero_le _⟩ (xT1.blind) (xT1.go hT hA0 hA G ow12) (fun q14 S15 H locs hq G => ?_)
  obtain ⟨hq1, hq2⟩ := hq
  rw [hq2] at G
  refine lv_to hq1 ?_
  clear hq1 hq2 eS13
  refine m_iast E G 11 3 (k := 1) (v := r16) rfl (fun _ => rfl) rfl (by decide) (by decide) dX12_readFirst_37 (fun H locs G => ?_)
  obtain ⟨S17, eS17, h⟩ := elet_some h
  rw [← eS17] at G
  clear eS17
  refine lv_aload_n hx hb dX12_readFirst_38 rfl (lv_at hl 0 rfl) ?_
  refine m_get E G 11 (v := .ref (ad 11)) (by decide) (.tail _ qM_8) rfl dX12_readFirst_39 rfl ?_
  refine lv_iconst (v := 2) hx hb dX12_readFirst_42 (by decide) ?_
  refine lv_aload_n hx hb dX12_readFirst_43 rfl (lv_at hl 0 rfl) ?_
  obtain ⟨w18, hw18, ow18⟩ := hT.1 ("AcousticCameraModel", 154, "samples") (List.mem_of_getElem? (i := 23) rfl)
  refine va_ldcS hx hb hown hw18 dX12_readFirst_44 ?_
  refine lv_bipush (v := 32) hx hb dX12_readFirst_46 (by decide) ?_
  refine lv_sipush (v := 200) hx hb dX12_readFirst_48 (by decide) ?_
  obtain ⟨r22, S19, eS19, h⟩ := obind2_some h
  refine m_calliX (As := [.ref w18, .int 32, .int 200]) (rest := [.int 2, .ref (ad 11)]) E G hA hR hml (tr_gauge l D cI cJ cZ ad S17 h0 (q := w18) (sTx_ok (by decide +kernel)) 32 200 eS19) (cwV 3 hts (gmV qM_138 qM_139 qM_140 qM_35 qM_126) rfl rfl rfl (by decide +kernel) ⟨Nat.le_of_ble_eq_true rfl, Nat.le_of_ble_eq_true rfl⟩) rfl hl.1 rfl (lv_room (Nat.le_of_ble_eq_true rfl)) dX12_readFirst_51 ⟨Nat.zero_le _, Nat.zero_le _⟩ (xT1.blind) (xT1.go hT hA0 hA G ow18) (fun q20 S21 H locs hq G => ?_)
  obtain ⟨hq1, hq2⟩ := hq
  rw [hq2] at G
  refine lv_to hq1 ?_
  clear hq1 hq2 eS19
  refine m_iast E G 11 3 (k := 2) (v := r22) rfl (fun _ => rfl) rfl (by decide) (by decide) dX12_readFirst_54 (fun H locs G => ?_)
  obtain ⟨S23, eS23, h⟩ := elet_some h
  rw [← eS23] at G
  clear eS23
  refine lv_aload_n hx hb dX12_readFirst_55 rfl (lv_at hl 0 rfl) ?_
  refine m_get E G 11 (v := .ref (ad 11)) (by decide) (.tail _ qM_8) rfl dX12_readFirst_56 rfl ?_
  refine lv_iconst (v := 3) hx hb dX12_readFirst_59 (by decide) ?_
  refine lv_aload_n hx hb dX12_readFirst_60 rfl (lv_at hl 0 rfl) ?_
  obtain ⟨w24, hw24, ow24⟩ := hT.1 ("AcousticCameraModel", 156, "limit") (List.mem_of_getElem? (i := 24) rfl)
  refine va_ldcS hx hb hown hw24 dX12_readFirst_61 ?_
  refine lv_iconst (v := 1) hx hb dX12_readFirst_63 (by decide) ?_
  refine lv_sipush (v := 9999) hx hb dX12_readFirst_64 (by decide) ?_
  obtain ⟨r28, S25, eS25, h⟩ := obind2_some h
  refine m_calliX (As := [.ref w24, .int 1, .int 9999]) (rest := [.int 3, .ref (ad 11)]) E G hA hR hml (tr_gauge l D cI cJ cZ ad S23 h0 (q := w24) (sTx_ok (by decide +kernel)) 1 9999 eS25) (cwV 3 hts (gmV qM_138 qM_139 qM_140 qM_35 qM_126) rfl rfl rfl (by decide +kernel) ⟨Nat.le_of_ble_eq_true rfl, Nat.le_of_ble_eq_true rfl⟩) rfl hl.1 rfl (lv_room (Nat.le_of_ble_eq_true rfl)) dX12_readFirst_67 ⟨Nat.zero_le _, Nat.zero_le _⟩ (xT1.blind) (xT1.go hT hA0 hA G ow24) (fun q26 S27 H locs hq G => ?_)
  obtain ⟨hq1, hq2⟩ := hq
  rw [hq2] at G
  refine lv_to hq1 ?_
  clear hq1 hq2 eS25
  refine m_iast E G 11 3 (k := 3) (v := r28) rfl (fun _ => rfl) rfl (by decide) (by decide) dX12_readFirst_70 (fun H locs G => ?_)
  obtain ⟨S29, eS29, h⟩ := elet_some h
  rw [← eS29] at G
  clear eS29
  exact W.vret hx hb hr (fun t ht hW => ⟨⟨S29, rfl, osome1 h, ⟨by rw [ht]; exact G.1, va_K.moved hW.alike hK, G.2.1⟩⟩, G.2.2.F ht⟩) G.2.2.2.2 dX12_readFirst_71
def fr_readMic_b18  (S : MS) (l1 : Int32) : Option (MS) := obind (fr_nextToken S) fun S2 => obind2 (fr_signed S2 (-500) 500) fun r8 S5 => obind2 (fr_signed S5 (-500) 500) fun r12 S9 => obind2 (fr_number S9 1 9) fun r16 S13 => elet (S13.1 5) fun v17 => if v17 ≤ 0 then (elet (11 + l1) fun v19 => oif (inb v19 131 = true) <| elet (mf S13 11 (upd (S13.2.1 11) v19.toNatClampNeg r8)) fun S21 => elet (23 + l1) fun v22 => oif (inb v22 131 = true) <| elet (mf S21 11 (upd (S21.2.1 11) v22.toNatClampNeg r12)) fun S24 => elet (35 + l1) fun v25 => oif (inb v25 131 = true) <| elet (mf S24 11 (upd (S24.2.1 11) v25.toNatClampNeg r16)) fun S27 => elet (S27.2.1 11 4) fun v28 => elet (v28 + 1) fun v29 => elet (mf S27 11 (upd (S27.2.1 11) 4 v29)) fun S30 => some S30) else (some S13)
set_option maxHeartbeats 4000000 in
set_option maxRecDepth 100000 in
theorem tr_readMic_b18 {p : Program} {l : Launch} {e : Env} {s : State} {m : MethodId} {args : Array Value} {below : List Frame} {meth : Method} {c : Code} {Q : State → Prop} {D : va_G} {A : Nat → Prop} {H0 : Heap} {cI cJ cZ : ClassId} {ad : Nat → Nat} {S1 : MS} (E : mE p c cX12_readMic s m args (Cond.code yX12_readMic cX12_readMic 5 none :: wsM) D cI cJ cZ) (hA : ∀ q : Nat, H0.size ≤ q → A q) (hR : sR s) (hml : c.maxLocals = 5) (kr60 : ∀ (H : Heap) (locs : List Loc) (ls : Array Slot), mG D cI cJ cZ ad A H0 H locs S1 → W p l e { frames := 5, cells := 0, slots := 0, locals := 90 } s m args below meth c H locs 0 0 Q (F0 m 60 ls [])) (kr102 : ∀ (H : Heap) (locs : List Loc) (ls : Array Slot), mG D cI cJ cZ ad A H0 H locs S1 → W p l e { frames := 5, cells := 0, slots := 0, locals := 90 } s m args below meth c H locs 0 0 Q (F0 m 102 ls [])) : ∀ (S : MS) (H : Heap) (locs : List Loc) (ls : Array Slot) (l1 : Int32), fr_readMic_b18 S l1 = some S1 → mG D cI cJ cZ ad A H0 H locs S → lv_has ls 5 [(0, .ref (ad 0)), (1, .int l1)] → W p l e { frames := 5, cells := 0, slots := 0, locals := 90 } s m args below meth c H locs 0 0 Q (F0 m 18 ls []) := by
  have hx := E.1
  have hb := E.2.1
  have hts := E.2.2.1
  have hown := E.2.2.2.1
  have hK := E.2.2.2.2.1
  intro S H locs ls l1 h G hl
  unfold fr_readMic_b18 at h
  refine lv_aload_n hx hb dX12_readMic_18 rfl (lv_at hl 0 rfl) ?_
  obtain ⟨S2, eS2, h⟩ := obind_some h
  refine m_callv (As := []) (rest := []) E G hA hR hml (tr_nextToken l D cI cJ cZ ad S eS2) (cwV 0 hts (gmV qM_111 qM_112 qM_113 qM_35 qM_45) rfl rfl rfl (by decide +kernel) ⟨Nat.le_of_ble_eq_true rfl, Nat.le_of_ble_eq_true rfl⟩) rfl hl.1 rfl (lv_room (Nat.le_of_ble_eq_true rfl)) dX12_readMic_19 ⟨Nat.zero_le _, Nat.zero_le _⟩ (fun S4 H locs hq G => ?_)
  rw [hq] at G
  clear hq eS2
  refine lv_aload_n hx hb dX12_readMic_22 rfl (lv_at hl 0 rfl) ?_
  refine lv_sipush (v := (-500)) hx hb dX12_readMic_23 (by decide) ?_
  refine lv_sipush (v := 500) hx hb dX12_readMic_26 (by decide) ?_
  obtain ⟨r8, S5, eS5, h⟩ := obind2_some h
  refine m_calli (As := [.int (-500), .int 500]) (rest := []) E G hA hR hml (tr_signed l D cI cJ cZ ad S2 (-500) 500 eS5) (cwV 2 hts (gmV qM_142 qM_143 qM_144 qM_35 qM_133) rfl rfl rfl (by decide +kernel) ⟨Nat.le_of_ble_eq_true rfl, Nat.le_of_ble_eq_true rfl⟩) rfl hl.1 rfl (lv_room (Nat.le_of_ble_eq_true rfl)) dX12_readMic_29 ⟨Nat.zero_le _, Nat.zero_le _⟩ (fun q6 S7 H locs hq G => ?_)
  obtain ⟨hq1, hq2⟩ := hq
  rw [hq2] at G
  refine lv_to hq1 ?_
  clear hq1 hq2 eS5
  refine lv_istore_n (lv' := [(2, .int r8), (0, .ref (ad 0)), (1, .int l1)]) hx hb dX12_readMic_32 rfl hl (by decide) rfl (fun ls hl => ?_)
  refine lv_aload_n hx hb dX12_readMic_33 rfl (lv_at hl 1 rfl) ?_
  refine lv_sipush (v := (-500)) hx hb dX12_readMic_34 (by decide) ?_
  refine lv_sipush (v := 500) hx hb dX12_readMic_37 (by decide) ?_
  obtain ⟨r12, S9, eS9, h⟩ := obind2_some h
  refine m_calli (As := [.int (-500), .int 500]) (rest := []) E G hA hR hml (tr_signed l D cI cJ cZ ad S5 (-500) 500 eS9) (cwV 2 hts (gmV qM_142 qM_143 qM_144 qM_35 qM_133) rfl rfl rfl (by decide +kernel) ⟨Nat.le_of_ble_eq_true rfl, Nat.le_of_ble_eq_true rfl⟩) rfl hl.1 rfl (lv_room (Nat.le_of_ble_eq_true rfl)) dX12_readMic_40 ⟨Nat.zero_le _, Nat.zero_le _⟩ (fun q10 S11 H locs hq G => ?_)
  obtain ⟨hq1, hq2⟩ := hq
  rw [hq2] at G
  refine lv_to hq1 ?_
  clear hq1 hq2 eS9
  refine lv_istore_n (lv' := [(3, .int r12), (2, .int r8), (0, .ref (ad 0)), (1, .int l1)]) hx hb dX12_readMic_43 rfl hl (by decide) rfl (fun ls hl => ?_)
  refine lv_aload_n hx hb dX12_readMic_44 rfl (lv_at hl 2 rfl) ?_
  refine lv_iconst (v := 1) hx hb dX12_readMic_45 (by decide) ?_
  refine lv_bipush (v := 9) hx hb dX12_readMic_46 (by decide) ?_
  obtain ⟨r16, S13, eS13, h⟩ := obind2_some h
  refine m_calli (As := [.int 1, .int 9]) (rest := []) E G hA hR hml (tr_number l D cI cJ cZ ad S9 1 9 eS13) (cwV 2 hts (gmV qM_130 qM_131 qM_132 qM_35 qM_122) rfl rfl rfl (by decide +kernel) ⟨Nat.le_of_ble_eq_true rfl, Nat.le_of_ble_eq_true rfl⟩) rfl hl.1 rfl (lv_room (Nat.le_of_ble_eq_true rfl)) dX12_readMic_48 ⟨Nat.zero_le _, Nat.zero_le _⟩ (fun q14 S15 H locs hq G => ?_)
  obtain ⟨hq1, hq2⟩ := hq
  rw [hq2] at G
  refine lv_to hq1 ?_
  clear hq1 hq2 eS13
  refine lv_istore (lv' := [(4, .int r16), (3, .int r12), (2, .int r8), (0, .ref (ad 0)), (1, .int l1)]) hx hb dX12_readMic_51 hl (by decide) rfl (fun ls hl => ?_)
  refine lv_aload_n hx hb dX12_readMic_53 rfl (lv_at hl 3 rfl) ?_
  refine m_get E G 5 (v := .int (S13.1 5)) (by decide) (.tail _ qM_38) rfl dX12_readMic_54 rfl ?_
  refine lv_topi (fun v17 ev17 => ?_)
  have h := elet_at ev17 h
  clear ev17
  refine lv_if_le (tgt := 61) hx hb dX12_readMic_57 (by decide) (fun c18 => ?_) (fun c18 => ?_)
  · have h := oif_pos c18 h
    refine lv_aload_n hx hb dX12_readMic_61 rfl (lv_at hl 3 rfl) ?_
    refine m_get E G 11 (v := .ref (ad 11)) (by decide) (.tail _ qM_8) rfl dX12_readMic_62 rfl ?_
    refine lv_bipush (v := 11) hx hb dX12_readMic_65 (by decide) ?_
    refine lv_iload_n hx hb dX12_readMic_67 rfl (lv_at hl 4 rfl) ?_
    refine lv_iadd hx hb dX12_readMic_68 ?_
    refine lv_topi (fun v19 ev19 => ?_)
    have h := elet_at ev19 h
    clear ev19
    refine lv_iload_n hx hb dX12_readMic_69 rfl (lv_at hl 2 rfl) ?_
    obtain ⟨g20, h⟩ := oif_some h
    refine m_iast E G 11 3 (k := v19.toNatClampNeg) (v := r8) rfl (fun _ => rfl) (inb_k g20).1 (inb_k g20).2 (by decide) dX12_readMic_70 (fun H locs G => ?_)
    obtain ⟨S21, eS21, h⟩ := elet_some h
    rw [← eS21] at G
    clear eS21
    refine lv_aload_n hx hb dX12_readMic_71 rfl (lv_at hl 3 rfl) ?_
    refine m_get E G 11 (v := .ref (ad 11)) (by decide) (.tail _ qM_8) rfl dX12_readMic_72 rfl ?_
    refine lv_bipush (v := 23) hx hb dX12_readMic_75 (by decide) ?_
    refine lv_iload_n hx hb dX12_readMic_77 rfl (lv_at hl 4 rfl) ?_
    refine lv_iadd hx hb dX12_readMic_78 ?_
    refine lv_topi (fun v22 ev22 => ?_)
    have h := elet_at ev22 h
    clear ev22
    refine lv_iload_n hx hb dX12_readMic_79 rfl (lv_at hl 1 rfl) ?_
    obtain ⟨g23, h⟩ := oif_some h
    refine m_iast E G 11 3 (k := v22.toNatClampNeg) (v := r12) rfl (fun _ => rfl) (inb_k g23).1 (inb_k g23).2 (by decide) dX12_readMic_80 (fun H locs G => ?_)
    obtain ⟨S24, eS24, h⟩ := elet_some h
    rw [← eS24] at G
    clear eS24
    refine lv_aload_n hx hb dX12_readMic_81 rfl (lv_at hl 3 rfl) ?_
    refine m_get E G 11 (v := .ref (ad 11)) (by decide) (.tail _ qM_8) rfl dX12_readMic_82 rfl ?_
    refine lv_bipush (v := 35) hx hb dX12_readMic_85 (by decide) ?_
    refine lv_iload_n hx hb dX12_readMic_87 rfl (lv_at hl 4 rfl) ?_
    refine lv_iadd hx hb dX12_readMic_88 ?_
    refine lv_topi (fun v25 ev25 => ?_)
    have h := elet_at ev25 h
    clear ev25
    refine lv_iload hx hb dX12_readMic_89 (lv_at hl 0 rfl) ?_
    obtain ⟨g26, h⟩ := oif_some h
    refine m_iast E G 11 3 (k := v25.toNatClampNeg) (v := r16) rfl (fun _ => rfl) (inb_k g26).1 (inb_k g26).2 (by decide) dX12_readMic_91 (fun H locs G => ?_)
    obtain ⟨S27, eS27, h⟩ := elet_some h
    rw [← eS27] at G
    clear eS27
    refine lv_aload_n hx hb dX12_readMic_92 rfl (lv_at hl 3 rfl) ?_
    refine m_get E G 11 (v := .ref (ad 11)) (by decide) (.tail _ qM_8) rfl dX12_readMic_93 rfl ?_
    refine lv_iconst (v := 4) hx hb dX12_readMic_96 (by decide) ?_
    refine lv_dup2_11 hx hb dX12_readMic_97 rfl rfl ?_
    refine m_iald E G 11 3 (n := 131) (k := 4) rfl rfl (by decide) (by decide) dX12_readMic_98 ?_
    refine lv_topi (fun v28 ev28 => ?_)
    have h := elet_at ev28 h
    clear ev28
    refine lv_iconst (v := 1) hx hb dX12_readMic_99 (by decide) ?_
    refine lv_iadd hx hb dX12_readMic_100 ?_
    refine lv_topi (fun v29 ev29 => ?_)
    have h := elet_at ev29 h
    clear ev29
    refine m_iast E G 11 3 (k := 4) (v := v29) rfl (fun _ => rfl) rfl (by decide) (by decide) dX12_readMic_101 (fun H locs G => ?_)
    obtain ⟨S30, eS30, h⟩ := elet_some h
    rw [← eS30] at G
    clear eS30
    rw [osome1 h] at G
    exact kr102 _ _ _ G
  · have h := oif_neg c18 h
    rw [osome1 h] at G
    exact kr60 _ _ _ G
def fr_readMic (S : MS)  : Option (MS) := elet (S.2.1 11 4) fun v2 => if v2 = 12 then (obind (fr_faults S 4) fun S4 => fr_readMic_b18 S4 v2) else (fr_readMic_b18 S v2)
set_option maxHeartbeats 4000000 in
set_option maxRecDepth 100000 in
theorem tr_readMic (l : Launch) (D : va_G) (cI cJ cZ : ClassId) (ad : Nat → Nat) (S : MS)  {S1 : MS} (h : fr_readMic S = some S1) : mCv l yX12_readMic (Cond.code yX12_readMic cX12_readMic 5 none :: wsM) 5 90 D cI cJ cZ ad S [] (fun S9 => S9 = S1) := by
  intro sz
  refine pro_in (cc := cX12_readMic) (maxL := 5) (ret := none) (by exact pn_RX12) rfl (by exact Nat.le_of_ble_eq_true rfl) (fun p e s m below meth c ls hx hb hr hts hown hlocks hml hv hl => ?_)
  obtain ⟨hsz, hP, hK, hD0, hR⟩ := hv
  subst hsz
  have hD := hD0.self (sz := s.heap.size)
  generalize hAe : va_A (MW cI cJ cZ ad S) s.heap.size = A at hD ⊢
  have hA : ∀ q : Nat, s.heap.size ≤ q → A q := fun q h => by rw [← hAe]; exact Or.inr h
  have G : mG D cI cJ cZ ad A s.heap s.heap [] S := ⟨hP, hD, va_S.rf⟩
  have E : mE p c cX12_readMic s m ([.ref (ad 0)] : List Value).toArray (Cond.code yX12_readMic cX12_readMic 5 none :: wsM) D cI cJ cZ := ⟨hx, hb, hts, hown, hK, fun w h => .tail _ (iM_x h)⟩
  have hl : lv_has ls 5 [(0, .ref (ad 0))] := hl
  unfold fr_readMic at h
  refine lv_aload_n hx hb dX12_readMic_0 rfl (lv_at hl 0 rfl) ?_
  refine m_get E G 11 (v := .ref (ad 11)) (by decide) (.tail _ qM_8) rfl dX12_readMic_1 rfl ?_
  refine lv_iconst (v := 4) hx hb dX12_readMic_4 (by decide) ?_
  refine m_iald E G 11 3 (n := 131) (k := 4) rfl rfl (by decide) (by decide) dX12_readMic_5 ?_
  refine lv_topi (fun v2 ev2 => ?_)
  have h := elet_at ev2 h
  clear ev2
  refine lv_istore_n (lv' := [(1, .int v2), (0, .ref (ad 0))]) hx hb dX12_readMic_6 rfl hl (by decide) rfl (fun ls hl => ?_)
  refine lv_iload_n hx hb dX12_readMic_7 rfl (lv_at hl 0 rfl) ?_
  refine lv_bipush (v := 12) hx hb dX12_readMic_8 (by decide) ?_
  refine lv_icmp_ne (tgt := 18) hx hb dX12_readMic_10 (by decide) (fun c3 => ?_) (fun c3 => ?_)
  · have h := oif_neg c3 h
    have hl := lv_sub hl [1, 0] rfl
    exact tr_readMic_b18 E hA hR hml (fun H locs ls G => W.vret hx hb hr (fun t ht hW => ⟨⟨S1, rfl, rfl, ⟨by rw [ht]; exact G.1, va_K.moved hW.alike hK, G.2.1⟩⟩, G.2.2.F ht⟩) G.2.2.2.2 dX12_readMic_60) (fun H locs ls G => W.vret hx hb hr (fun t ht hW => ⟨⟨S1, rfl, rfl, ⟨by rw [ht]; exact G.1, va_K.moved hW.alike hK, G.2.1⟩⟩, G.2.2.F ht⟩) G.2.2.2.2 dX12_readMic_102) _ _ _ _ _ h G hl
  · have h := oif_pos c3 h
    refine lv_aload_n hx hb dX12_readMic_13 rfl (lv_at hl 1 rfl) ?_
    refine lv_iconst (v := 4) hx hb dX12_readMic_14 (by decide) ?_
    obtain ⟨S4, eS4, h⟩ := obind_some h
    refine m_callv (As := [.int 4]) (rest := []) E G hA hR hml (tr_faults l D cI cJ cZ ad S 4 eS4) (cwV 1 hts (gmV qM_118 qM_119 qM_120 qM_35 qM_42) rfl rfl rfl (by decide +kernel) ⟨Nat.le_of_ble_eq_true rfl, Nat.le_of_ble_eq_true rfl⟩) rfl hl.1 rfl (lv_room (Nat.le_of_ble_eq_true rfl)) dX12_readMic_15 ⟨Nat.zero_le _, Nat.zero_le _⟩ (fun S6 H locs hq G => ?_)
    rw [hq] at G
    clear hq eS4
    have hl := lv_sub hl [1, 0] rfl
    exact tr_readMic_b18 E hA hR hml (fun H locs ls G => W.vret hx hb hr (fun t ht hW => ⟨⟨S1, rfl, rfl, ⟨by rw [ht]; exact G.1, va_K.moved hW.alike hK, G.2.1⟩⟩, G.2.2.F ht⟩) G.2.2.2.2 dX12_readMic_60) (fun H locs ls G => W.vret hx hb hr (fun t ht hW => ⟨⟨S1, rfl, rfl, ⟨by rw [ht]; exact G.1, va_K.moved hW.alike hK, G.2.1⟩⟩, G.2.2.F ht⟩) G.2.2.2.2 dX12_readMic_102) _ _ _ _ _ h G hl
def fr_readMap_b15  (S : MS)  : Option (MS) := obind (fr_nextToken S) fun S2 => obind2 (fr_signed S2 (-999) 999) fun r8 S5 => obind2 (fr_signed S5 (-999) 999) fun r12 S9 => obind2 (fr_number S9 1 99) fun r16 S13 => obind2 (fr_number S13 1 12) fun r20 S17 => obind2 (fr_number S17 1 12) fun r24 S21 => elet (S21.1 5) fun v25 => if v25 ≤ 0 then (elet (mf S21 11 (upd (S21.2.1 11) 6 r8)) fun S27 => elet (mf S27 11 (upd (S27.2.1 11) 7 r12)) fun S28 => elet (mf S28 11 (upd (S28.2.1 11) 8 r16)) fun S29 => elet (mf S29 11 (upd (S29.2.1 11) 9 r20)) fun S30 => elet (mf S30 11 (upd (S30.2.1 11) 10 r24)) fun S31 => some S31) else (some S21)
set_option maxHeartbeats 4000000 in
set_option maxRecDepth 100000 in
theorem tr_readMap_b15 {p : Program} {l : Launch} {e : Env} {s : State} {m : MethodId} {args : Array Value} {below : List Frame} {meth : Method} {c : Code} {Q : State → Prop} {D : va_G} {A : Nat → Prop} {H0 : Heap} {cI cJ cZ : ClassId} {ad : Nat → Nat} {S1 : MS} (E : mE p c cX12_readMap s m args (Cond.code yX12_readMap cX12_readMap 6 none :: wsM) D cI cJ cZ) (hA : ∀ q : Nat, H0.size ≤ q → A q) (hR : sR s) (hml : c.maxLocals = 6) (kr74 : ∀ (H : Heap) (locs : List Loc) (ls : Array Slot), mG D cI cJ cZ ad A H0 H locs S1 → W p l e { frames := 5, cells := 0, slots := 0, locals := 90 } s m args below meth c H locs 0 0 Q (F0 m 74 ls [])) (kr117 : ∀ (H : Heap) (locs : List Loc) (ls : Array Slot), mG D cI cJ cZ ad A H0 H locs S1 → W p l e { frames := 5, cells := 0, slots := 0, locals := 90 } s m args below meth c H locs 0 0 Q (F0 m 117 ls [])) : ∀ (S : MS) (H : Heap) (locs : List Loc) (ls : Array Slot), fr_readMap_b15 S = some S1 → mG D cI cJ cZ ad A H0 H locs S → lv_has ls 6 [(0, .ref (ad 0))] → W p l e { frames := 5, cells := 0, slots := 0, locals := 90 } s m args below meth c H locs 0 0 Q (F0 m 15 ls []) := by
  have hx := E.1
  have hb := E.2.1
  have hts := E.2.2.1
  have hown := E.2.2.2.1
  have hK := E.2.2.2.2.1
  intro S H locs ls h G hl
  unfold fr_readMap_b15 at h
  refine lv_aload_n hx hb dX12_readMap_15 rfl (lv_at hl 0 rfl) ?_
  obtain ⟨S2, eS2, h⟩ := obind_some h
  refine m_callv (As := []) (rest := []) E G hA hR hml (tr_nextToken l D cI cJ cZ ad S eS2) (cwV 0 hts (gmV qM_111 qM_112 qM_113 qM_35 qM_45) rfl rfl rfl (by decide +kernel) ⟨Nat.le_of_ble_eq_true rfl, Nat.le_of_ble_eq_true rfl⟩) rfl hl.1 rfl (lv_room (Nat.le_of_ble_eq_true rfl)) dX12_readMap_16 ⟨Nat.zero_le _, Nat.zero_le _⟩ (fun S4 H locs hq G => ?_)
  rw [hq] at G
  clear hq eS2
  refine lv_aload_n hx hb dX12_readMap_19 rfl (lv_at hl 0 rfl) ?_
  refine lv_sipush (v := (-999)) hx hb dX12_readMap_20 (by decide) ?_
  refine lv_sipush (v := 999) hx hb dX12_readMap_23 (by decide) ?_
  obtain ⟨r8, S5, eS5, h⟩ := obind2_some h
  refine m_calli (As := [.int (-999), .int 999]) (rest := []) E G hA hR hml (tr_signed l D cI cJ cZ ad S2 (-999) 999 eS5) (cwV 2 hts (gmV qM_142 qM_143 qM_144 qM_35 qM_133) rfl rfl rfl (by decide +kernel) ⟨Nat.le_of_ble_eq_true rfl, Nat.le_of_ble_eq_true rfl⟩) rfl hl.1 rfl (lv_room (Nat.le_of_ble_eq_true rfl)) dX12_readMap_26 ⟨Nat.zero_le _, Nat.zero_le _⟩ (fun q6 S7 H locs hq G => ?_)
  obtain ⟨hq1, hq2⟩ := hq
  rw [hq2] at G
  refine lv_to hq1 ?_
  clear hq1 hq2 eS5
  refine lv_istore_n (lv' := [(1, .int r8), (0, .ref (ad 0))]) hx hb dX12_readMap_29 rfl hl (by decide) rfl (fun ls hl => ?_)
  refine lv_aload_n hx hb dX12_readMap_30 rfl (lv_at hl 1 rfl) ?_
  refine lv_sipush (v := (-999)) hx hb dX12_readMap_31 (by decide) ?_
  refine lv_sipush (v := 999) hx hb dX12_readMap_34 (by decide) ?_
  obtain ⟨r12, S9, eS9, h⟩ := obind2_some h
  refine m_calli (As := [.int (-999), .int 999]) (rest := []) E G hA hR hml (tr_signed l D cI cJ cZ ad S5 (-999) 999 eS9) (cwV 2 hts (gmV qM_142 qM_143 qM_144 qM_35 qM_133) rfl rfl rfl (by decide +kernel) ⟨Nat.le_of_ble_eq_true rfl, Nat.le_of_ble_eq_true rfl⟩) rfl hl.1 rfl (lv_room (Nat.le_of_ble_eq_true rfl)) dX12_readMap_37 ⟨Nat.zero_le _, Nat.zero_le _⟩ (fun q10 S11 H locs hq G => ?_)
  obtain ⟨hq1, hq2⟩ := hq
  rw [hq2] at G
  refine lv_to hq1 ?_
  clear hq1 hq2 eS9
  refine lv_istore_n (lv' := [(2, .int r12), (1, .int r8), (0, .ref (ad 0))]) hx hb dX12_readMap_40 rfl hl (by decide) rfl (fun ls hl => ?_)
  refine lv_aload_n hx hb dX12_readMap_41 rfl (lv_at hl 2 rfl) ?_
  refine lv_iconst (v := 1) hx hb dX12_readMap_42 (by decide) ?_
  refine lv_bipush (v := 99) hx hb dX12_readMap_43 (by decide) ?_
  obtain ⟨r16, S13, eS13, h⟩ := obind2_some h
  refine m_calli (As := [.int 1, .int 99]) (rest := []) E G hA hR hml (tr_number l D cI cJ cZ ad S9 1 99 eS13) (cwV 2 hts (gmV qM_130 qM_131 qM_132 qM_35 qM_122) rfl rfl rfl (by decide +kernel) ⟨Nat.le_of_ble_eq_true rfl, Nat.le_of_ble_eq_true rfl⟩) rfl hl.1 rfl (lv_room (Nat.le_of_ble_eq_true rfl)) dX12_readMap_45 ⟨Nat.zero_le _, Nat.zero_le _⟩ (fun q14 S15 H locs hq G => ?_)
  obtain ⟨hq1, hq2⟩ := hq
  rw [hq2] at G
  refine lv_to hq1 ?_
  clear hq1 hq2 eS13
  refine lv_istore_n (lv' := [(3, .int r16), (2, .int r12), (1, .int r8), (0, .ref (ad 0))]) hx hb dX12_readMap_48 rfl hl (by decide) rfl (fun ls hl => ?_)
  refine lv_aload_n hx hb dX12_readMap_49 rfl (lv_at hl 3 rfl) ?_
  refine lv_iconst (v := 1) hx hb dX12_readMap_50 (by decide) ?_
  refine lv_bipush (v := 12) hx hb dX12_readMap_51 (by decide) ?_
  obtain ⟨r20, S17, eS17, h⟩ := obind2_some h
  refine m_calli (As := [.int 1, .int 12]) (rest := []) E G hA hR hml (tr_number l D cI cJ cZ ad S13 1 12 eS17) (cwV 2 hts (gmV qM_130 qM_131 qM_132 qM_35 qM_122) rfl rfl rfl (by decide +kernel) ⟨Nat.le_of_ble_eq_true rfl, Nat.le_of_ble_eq_true rfl⟩) rfl hl.1 rfl (lv_room (Nat.le_of_ble_eq_true rfl)) dX12_readMap_53 ⟨Nat.zero_le _, Nat.zero_le _⟩ (fun q18 S19 H locs hq G => ?_)
  obtain ⟨hq1, hq2⟩ := hq
  rw [hq2] at G
  refine lv_to hq1 ?_
  clear hq1 hq2 eS17
  refine lv_istore (lv' := [(4, .int r20), (3, .int r16), (2, .int r12), (1, .int r8), (0, .ref (ad 0))]) hx hb dX12_readMap_56 hl (by decide) rfl (fun ls hl => ?_)
  refine lv_aload_n hx hb dX12_readMap_58 rfl (lv_at hl 4 rfl) ?_
  refine lv_iconst (v := 1) hx hb dX12_readMap_59 (by decide) ?_
  refine lv_bipush (v := 12) hx hb dX12_readMap_60 (by decide) ?_
  obtain ⟨r24, S21, eS21, h⟩ := obind2_some h
  refine m_calli (As := [.int 1, .int 12]) (rest := []) E G hA hR hml (tr_number l D cI cJ cZ ad S17 1 12 eS21) (cwV 2 hts (gmV qM_130 qM_131 qM_132 qM_35 qM_122) rfl rfl rfl (by decide +kernel) ⟨Nat.le_of_ble_eq_true rfl, Nat.le_of_ble_eq_true rfl⟩) rfl hl.1 rfl (lv_room (Nat.le_of_ble_eq_true rfl)) dX12_readMap_62 ⟨Nat.zero_le _, Nat.zero_le _⟩ (fun q22 S23 H locs hq G => ?_)
  obtain ⟨hq1, hq2⟩ := hq
  rw [hq2] at G
  refine lv_to hq1 ?_
  clear hq1 hq2 eS21
  refine lv_istore (lv' := [(5, .int r24), (4, .int r20), (3, .int r16), (2, .int r12), (1, .int r8), (0, .ref (ad 0))]) hx hb dX12_readMap_65 hl (by decide) rfl (fun ls hl => ?_)
  refine lv_aload_n hx hb dX12_readMap_67 rfl (lv_at hl 5 rfl) ?_
  refine m_get E G 5 (v := .int (S21.1 5)) (by decide) (.tail _ qM_38) rfl dX12_readMap_68 rfl ?_
  refine lv_topi (fun v25 ev25 => ?_)
  have h := elet_at ev25 h
  clear ev25
  refine lv_if_le (tgt := 75) hx hb dX12_readMap_71 (by decide) (fun c26 => ?_) (fun c26 => ?_)
  · have h := oif_pos c26 h
    refine lv_aload_n hx hb dX12_readMap_75 rfl (lv_at hl 5 rfl) ?_
    refine m_get E G 11 (v := .ref (ad 11)) (by decide) (.tail _ qM_8) rfl dX12_readMap_76 rfl ?_
    refine lv_bipush (v := 6) hx hb dX12_readMap_79 (by decide) ?_
    refine lv_iload_n hx hb dX12_readMap_81 rfl (lv_at hl 4 rfl) ?_
    refine m_iast E G 11 3 (k := 6) (v := r8) rfl (fun _ => rfl) rfl (by decide) (by decide) dX12_readMap_82 (fun H locs G => ?_)
    obtain ⟨S27, eS27, h⟩ := elet_some h
    rw [← eS27] at G
    clear eS27
    refine lv_aload_n hx hb dX12_readMap_83 rfl (lv_at hl 5 rfl) ?_
    refine m_get E G 11 (v := .ref (ad 11)) (by decide) (.tail _ qM_8) rfl dX12_readMap_84 rfl ?_
    refine lv_bipush (v := 7) hx hb dX12_readMap_87 (by decide) ?_
    refine lv_iload_n hx hb dX12_readMap_89 rfl (lv_at hl 3 rfl) ?_
    refine m_iast E G 11 3 (k := 7) (v := r12) rfl (fun _ => rfl) rfl (by decide) (by decide) dX12_readMap_90 (fun H locs G => ?_)
    obtain ⟨S28, eS28, h⟩ := elet_some h
    rw [← eS28] at G
    clear eS28
    refine lv_aload_n hx hb dX12_readMap_91 rfl (lv_at hl 5 rfl) ?_
    refine m_get E G 11 (v := .ref (ad 11)) (by decide) (.tail _ qM_8) rfl dX12_readMap_92 rfl ?_
    refine lv_bipush (v := 8) hx hb dX12_readMap_95 (by decide) ?_
    refine lv_iload_n hx hb dX12_readMap_97 rfl (lv_at hl 2 rfl) ?_
    refine m_iast E G 11 3 (k := 8) (v := r16) rfl (fun _ => rfl) rfl (by decide) (by decide) dX12_readMap_98 (fun H locs G => ?_)
    obtain ⟨S29, eS29, h⟩ := elet_some h
    rw [← eS29] at G
    clear eS29
    refine lv_aload_n hx hb dX12_readMap_99 rfl (lv_at hl 5 rfl) ?_
    refine m_get E G 11 (v := .ref (ad 11)) (by decide) (.tail _ qM_8) rfl dX12_readMap_100 rfl ?_
    refine lv_bipush (v := 9) hx hb dX12_readMap_103 (by decide) ?_
    refine lv_iload hx hb dX12_readMap_105 (lv_at hl 1 rfl) ?_
    refine m_iast E G 11 3 (k := 9) (v := r20) rfl (fun _ => rfl) rfl (by decide) (by decide) dX12_readMap_107 (fun H locs G => ?_)
    obtain ⟨S30, eS30, h⟩ := elet_some h
    rw [← eS30] at G
    clear eS30
    refine lv_aload_n hx hb dX12_readMap_108 rfl (lv_at hl 5 rfl) ?_
    refine m_get E G 11 (v := .ref (ad 11)) (by decide) (.tail _ qM_8) rfl dX12_readMap_109 rfl ?_
    refine lv_bipush (v := 10) hx hb dX12_readMap_112 (by decide) ?_
    refine lv_iload hx hb dX12_readMap_114 (lv_at hl 0 rfl) ?_
    refine m_iast E G 11 3 (k := 10) (v := r24) rfl (fun _ => rfl) rfl (by decide) (by decide) dX12_readMap_116 (fun H locs G => ?_)
    obtain ⟨S31, eS31, h⟩ := elet_some h
    rw [← eS31] at G
    clear eS31
    rw [osome1 h] at G
    exact kr117 _ _ _ G
  · have h := oif_neg c26 h
    rw [osome1 h] at G
    exact kr74 _ _ _ G
def fr_readMap (S : MS)  : Option (MS) := elet (S.2.1 11 8) fun v2 => if v2 ≤ 0 then (fr_readMap_b15 S) else (obind (fr_faults S 3) fun S4 => fr_readMap_b15 S4)
set_option maxHeartbeats 4000000 in
set_option maxRecDepth 100000 in
theorem tr_readMap (l : Launch) (D : va_G) (cI cJ cZ : ClassId) (ad : Nat → Nat) (S : MS)  {S1 : MS} (h : fr_readMap S = some S1) : mCv l yX12_readMap (Cond.code yX12_readMap cX12_readMap 6 none :: wsM) 5 90 D cI cJ cZ ad S [] (fun S9 => S9 = S1) := by
  intro sz
  refine pro_in (cc := cX12_readMap) (maxL := 6) (ret := none) (by exact pn_RX12) rfl (by exact Nat.le_of_ble_eq_true rfl) (fun p e s m below meth c ls hx hb hr hts hown hlocks hml hv hl => ?_)
  obtain ⟨hsz, hP, hK, hD0, hR⟩ := hv
  subst hsz
  have hD := hD0.self (sz := s.heap.size)
  generalize hAe : va_A (MW cI cJ cZ ad S) s.heap.size = A at hD ⊢
  have hA : ∀ q : Nat, s.heap.size ≤ q → A q := fun q h => by rw [← hAe]; exact Or.inr h
  have G : mG D cI cJ cZ ad A s.heap s.heap [] S := ⟨hP, hD, va_S.rf⟩
  have E : mE p c cX12_readMap s m ([.ref (ad 0)] : List Value).toArray (Cond.code yX12_readMap cX12_readMap 6 none :: wsM) D cI cJ cZ := ⟨hx, hb, hts, hown, hK, fun w h => .tail _ (iM_x h)⟩
  have hl : lv_has ls 6 [(0, .ref (ad 0))] := hl
  unfold fr_readMap at h
  refine lv_aload_n hx hb dX12_readMap_0 rfl (lv_at hl 0 rfl) ?_
  refine m_get E G 11 (v := .ref (ad 11)) (by decide) (.tail _ qM_8) rfl dX12_readMap_1 rfl ?_
  refine lv_bipush (v := 8) hx hb dX12_readMap_4 (by decide) ?_
  refine m_iald E G 11 3 (n := 131) (k := 8) rfl rfl (by decide) (by decide) dX12_readMap_6 ?_
  refine lv_topi (fun v2 ev2 => ?_)
  have h := elet_at ev2 h
  clear ev2
  refine lv_if_le (tgt := 15) hx hb dX12_readMap_7 (by decide) (fun c3 => ?_) (fun c3 => ?_)
  · have h := oif_pos c3 h
    have hl := lv_sub hl [0] rfl
    exact tr_readMap_b15 E hA hR hml (fun H locs ls G => W.vret hx hb hr (fun t ht hW => ⟨⟨S1, rfl, rfl, ⟨by rw [ht]; exact G.1, va_K.moved hW.alike hK, G.2.1⟩⟩, G.2.2.F ht⟩) G.2.2.2.2 dX12_readMap_74) (fun H locs ls G => W.vret hx hb hr (fun t ht hW => ⟨⟨S1, rfl, rfl, ⟨by rw [ht]; exact G.1, va_K.moved hW.alike hK, G.2.1⟩⟩, G.2.2.F ht⟩) G.2.2.2.2 dX12_readMap_117) _ _ _ _ h G hl
  · have h := oif_neg c3 h
    refine lv_aload_n hx hb dX12_readMap_10 rfl (lv_at hl 0 rfl) ?_
    refine lv_iconst (v := 3) hx hb dX12_readMap_11 (by decide) ?_
    obtain ⟨S4, eS4, h⟩ := obind_some h
    refine m_callv (As := [.int 3]) (rest := []) E G hA hR hml (tr_faults l D cI cJ cZ ad S 3 eS4) (cwV 1 hts (gmV qM_118 qM_119 qM_120 qM_35 qM_42) rfl rfl rfl (by decide +kernel) ⟨Nat.le_of_ble_eq_true rfl, Nat.le_of_ble_eq_true rfl⟩) rfl hl.1 rfl (lv_room (Nat.le_of_ble_eq_true rfl)) dX12_readMap_12 ⟨Nat.zero_le _, Nat.zero_le _⟩ (fun S6 H locs hq G => ?_)
    rw [hq] at G
    clear hq eS4
    have hl := lv_sub hl [0] rfl
    exact tr_readMap_b15 E hA hR hml (fun H locs ls G => W.vret hx hb hr (fun t ht hW => ⟨⟨S1, rfl, rfl, ⟨by rw [ht]; exact G.1, va_K.moved hW.alike hK, G.2.1⟩⟩, G.2.2.F ht⟩) G.2.2.2.2 dX12_readMap_74) (fun H locs ls G => W.vret hx hb hr (fun t ht hW => ⟨⟨S1, rfl, rfl, ⟨by rw [ht]; exact G.1, va_K.moved hW.alike hK, G.2.1⟩⟩, G.2.2.F ht⟩) G.2.2.2.2 dX12_readMap_117) _ _ _ _ h G hl
def fr_readSource_b186  (S : MS) (s0 : Int32) (l1 : Int32) (l2 : Int32) (l3 : Int32) (l4 : Int32) (l5 : Int32) (l6 : Int32) (l7 : Int32) (l8 : Int32) (l9 : Int32) : Option (MS) := elet (S.1 5) fun v2 => if v2 ≤ 0 then (elet (95 + l1) fun v4 => oif (inb v4 131 = true) <| elet (mf S 11 (upd (S.2.1 11) v4.toNatClampNeg s0)) fun S6 => elet (25 + l1) fun v7 => oif (inb v7 2455 = true) <| elet (mf S6 13 (upd (S6.2.1 13) v7.toNatClampNeg 1)) fun S9 => elet (31 + l1) fun v10 => oif (inb v10 2455 = true) <| elet (mf S9 13 (upd (S9.2.1 13) v10.toNatClampNeg l3)) fun S12 => elet (37 + l1) fun v13 => oif (inb v13 2455 = true) <| elet (mf S12 13 (upd (S12.2.1 13) v13.toNatClampNeg l4)) fun S15 => elet (43 + l1) fun v16 => oif (inb v16 2455 = true) <| elet (mf S15 13 (upd (S15.2.1 13) v16.toNatClampNeg l5)) fun S18 => elet (49 + l1) fun v19 => oif (inb v19 2455 = true) <| elet (mf S18 13 (upd (S18.2.1 13) v19.toNatClampNeg l6)) fun S21 => elet (47 + l1) fun v22 => oif (inb v22 131 = true) <| elet (mf S21 11 (upd (S21.2.1 11) v22.toNatClampNeg l2)) fun S24 => elet (53 + l1) fun v25 => oif (inb v25 131 = true) <| elet (mf S24 11 (upd (S24.2.1 11) v25.toNatClampNeg l7)) fun S27 => elet (59 + l1) fun v28 => oif (inb v28 131 = true) <| elet (mf S27 11 (upd (S27.2.1 11) v28.toNatClampNeg l8)) fun S30 => elet (65 + l1) fun v31 => oif (inb v31 131 = true) <| elet (mf S30 11 (upd (S30.2.1 11) v31.toNatClampNeg l9)) fun S33 => elet (S33.2.1 11 5) fun v34 => elet (v34 + 1) fun v35 => elet (mf S33 11 (upd (S33.2.1 11) 5 v35)) fun S36 => some S36) else (some S)
set_option maxHeartbeats 4000000 in
set_option maxRecDepth 100000 in
theorem tr_readSource_b186 {p : Program} {l : Launch} {e : Env} {s : State} {m : MethodId} {args : Array Value} {below : List Frame} {meth : Method} {c : Code} {Q : State → Prop} {D : va_G} {A : Nat → Prop} {cI cJ cZ : ClassId} {ad : Nat → Nat} {S1 : MS} (E : mE p c cX12_readSource s m args (Cond.code yX12_readSource cX12_readSource 11 none :: wsM) D cI cJ cZ) (hA : ∀ q : Nat, s.heap.size ≤ q → A q) (hR : sR s) (hml : c.maxLocals = 11) {h0 : Nat} (hA0 : ∀ a : Nat, A a → h0 ≤ a) (hT : sAll h0 s) (kr195 : ∀ (H : Heap) (locs : List Loc) (ls : Array Slot), mG D cI cJ cZ ad A s.heap H locs S1 → W p l e { frames := 7, cells := 0, slots := 0, locals := 131 } s m args below meth c H locs 0 0 Q (F0 m 195 ls [])) (kr313 : ∀ (H : Heap) (locs : List Loc) (ls : Array Slot), mG D cI cJ cZ ad A s.heap H locs S1 → W p l e { frames := 7, cells := 0, slots := 0, locals := 131 } s m args below meth c H locs 0 0 Q (F0 m 313 ls [])) : ∀ (S : MS) (H : Heap) (locs : List Loc) (ls : Array Slot) (s0 : Int32) (l1 : Int32) (l2 : Int32) (l3 : Int32) (l4 : Int32) (l5 : Int32) (l6 : Int32) (l7 : Int32) (l8 : Int32) (l9 : Int32), fr_readSource_b186 S s0 l1 l2 l3 l4 l5 l6 l7 l8 l9 = some S1 → mG D cI cJ cZ ad A s.heap H locs S → lv_has ls 11 [(0, .ref (ad 0)), (1, .int l1), (2, .int l2), (3, .int l3), (4, .int l4), (5, .int l5), (6, .int l6), (7, .int l7), (8, .int l8), (9, .int l9)] → W p l e { frames := 7, cells := 0, slots := 0, locals := 131 } s m args below meth c H locs 0 0 Q (F0 m 186 ls [.int s0]) := by
  have hx := E.1
  have hb := E.2.1
  have hts := E.2.2.1
  have hown := E.2.2.2.1
  have hK := E.2.2.2.2.1
  intro S H locs ls s0 l1 l2 l3 l4 l5 l6 l7 l8 l9 h G hl
  unfold fr_readSource_b186 at h
  refine lv_istore (lv' := [(10, .int s0), (0, .ref (ad 0)), (1, .int l1), (2, .int l2), (3, .int l3), (4, .int l4), (5, .int l5), (6, .int l6), (7, .int l7), (8, .int l8), (9, .int l9)]) hx hb dX12_readSource_186 hl (by decide) rfl (fun ls hl => ?_)
  refine lv_aload_n hx hb dX12_readSource_188 rfl (lv_at hl 1 rfl) ?_
  refine m_get E G 5 (v := .int (S.1 5)) (by decide) (.tail _ qM_38) rfl dX12_readSource_189 rfl ?_
  refine lv_topi (fun v2 ev2 => ?_)
  have h := elet_at ev2 h
  clear ev2
  refine lv_if_le (tgt := 196) hx hb dX12_readSource_192 (by decide) (fun c3 => ?_) (fun c3 => ?_)
  · have h := oif_pos c3 h
    refine lv_aload_n hx hb dX12_readSource_196 rfl (lv_at hl 1 rfl) ?_
    refine m_get E G 11 (v := .ref (ad 11)) (by decide) (.tail _ qM_8) rfl dX12_readSource_197 rfl ?_
    refine lv_bipush (v := 95) hx hb dX12_readSource_200 (by decide) ?_
    refine lv_iload_n hx hb dX12_readSource_202 rfl (lv_at hl 2 rfl) ?_
    refine lv_iadd hx hb dX12_readSource_203 ?_
    refine lv_topi (fun v4 ev4 => ?_)
    have h := elet_at ev4 h
    clear ev4
    refine lv_iload hx hb dX12_readSource_204 (lv_at hl 0 rfl) ?_
    obtain ⟨g5, h⟩ := oif_some h
    refine m_iast E G 11 3 (k := v4.toNatClampNeg) (v := s0) rfl (fun _ => rfl) (inb_k g5).1 (inb_k g5).2 (by decide) dX12_readSource_206 (fun H locs G => ?_)
    obtain ⟨S6, eS6, h⟩ := elet_some h
    rw [← eS6] at G
    clear eS6
    refine lv_aload_n hx hb dX12_readSource_207 rfl (lv_at hl 1 rfl) ?_
    refine m_get E G 13 (v := .ref (ad 13)) (by decide) (.tail _ qM_10) rfl dX12_readSource_208 rfl ?_
    refine lv_bipush (v := 25) hx hb dX12_readSource_211 (by decide) ?_
    refine lv_iload_n hx hb dX12_readSource_213 rfl (lv_at hl 2 rfl) ?_
    refine lv_iadd hx hb dX12_readSource_214 ?_
    refine lv_topi (fun v7 ev7 => ?_)
    have h := elet_at ev7 h
    clear ev7
    refine lv_iconst (v := 1) hx hb dX12_readSource_215 (by decide) ?_
    obtain ⟨g8, h⟩ := oif_some h
    refine m_iast E G 13 5 (k := v7.toNatClampNeg) (v := 1) rfl (fun _ => rfl) (inb_k g8).1 (inb_k g8).2 (by decide) dX12_readSource_216 (fun H locs G => ?_)
    obtain ⟨S9, eS9, h⟩ := elet_some h
    rw [← eS9] at G
    clear eS9
    refine lv_aload_n hx hb dX12_readSource_217 rfl (lv_at hl 1 rfl) ?_
    refine m_get E G 13 (v := .ref (ad 13)) (by decide) (.tail _ qM_10) rfl dX12_readSource_218 rfl ?_
    refine lv_bipush (v := 31) hx hb dX12_readSource_221 (by decide) ?_
    refine lv_iload_n hx hb dX12_readSource_223 rfl (lv_at hl 2 rfl) ?_
    refine lv_iadd hx hb dX12_readSource_224 ?_
    refine lv_topi (fun v10 ev10 => ?_)
    have h := elet_at ev10 h
    clear ev10
    refine lv_iload_n hx hb dX12_readSource_225 rfl (lv_at hl 4 rfl) ?_
    obtain ⟨g11, h⟩ := oif_some h
    refine m_iast E G 13 5 (k := v10.toNatClampNeg) (v := l3) rfl (fun _ => rfl) (inb_k g11).1 (inb_k g11).2 (by decide) dX12_readSource_226 (fun H locs G => ?_)
    obtain ⟨S12, eS12, h⟩ := elet_some h
    rw [← eS12] at G
    clear eS12
    refine lv_aload_n hx hb dX12_readSource_227 rfl (lv_at hl 1 rfl) ?_
    refine m_get E G 13 (v := .ref (ad 13)) (by decide) (.tail _ qM_10) rfl dX12_readSource_228 rfl ?_
    refine lv_bipush (v := 37) hx hb dX12_readSource_231 (by decide) ?_
    refine lv_iload_n hx hb dX12_readSource_233 rfl (lv_at hl 2 rfl) ?_
    refine lv_iadd hx hb dX12_readSource_234 ?_
    refine lv_topi (fun v13 ev13 => ?_)
    have h := elet_at ev13 h
    clear ev13
    refine lv_iload hx hb dX12_readSource_235 (lv_at hl 5 rfl) ?_
    obtain ⟨g14, h⟩ := oif_some h
    refine m_iast E G 13 5 (k := v13.toNatClampNeg) (v := l4) rfl (fun _ => rfl) (inb_k g14).1 (inb_k g14).2 (by decide) dX12_readSource_237 (fun H locs G => ?_)
    obtain ⟨S15, eS15, h⟩ := elet_some h
    rw [← eS15] at G
    clear eS15
    refine lv_aload_n hx hb dX12_readSource_238 rfl (lv_at hl 1 rfl) ?_
    refine m_get E G 13 (v := .ref (ad 13)) (by decide) (.tail _ qM_10) rfl dX12_readSource_239 rfl ?_
    refine lv_bipush (v := 43) hx hb dX12_readSource_242 (by decide) ?_
    refine lv_iload_n hx hb dX12_readSource_244 rfl (lv_at hl 2 rfl) ?_
    refine lv_iadd hx hb dX12_readSource_245 ?_
    refine lv_topi (fun v16 ev16 => ?_)
    have h := elet_at ev16 h
    clear ev16
    refine lv_iload hx hb dX12_readSource_246 (lv_at hl 6 rfl) ?_
    obtain ⟨g17, h⟩ := oif_some h
    refine m_iast E G 13 5 (k := v16.toNatClampNeg) (v := l5) rfl (fun _ => rfl) (inb_k g17).1 (inb_k g17).2 (by decide) dX12_readSource_248 (fun H locs G => ?_)
    obtain ⟨S18, eS18, h⟩ := elet_some h
    rw [← eS18] at G
    clear eS18
    refine lv_aload_n hx hb dX12_readSource_249 rfl (lv_at hl 1 rfl) ?_
    refine m_get E G 13 (v := .ref (ad 13)) (by decide) (.tail _ qM_10) rfl dX12_readSource_250 rfl ?_
    refine lv_bipush (v := 49) hx hb dX12_readSource_253 (by decide) ?_
    refine lv_iload_n hx hb dX12_readSource_255 rfl (lv_at hl 2 rfl) ?_
    refine lv_iadd hx hb dX12_readSource_256 ?_
    refine lv_topi (fun v19 ev19 => ?_)
    have h := elet_at ev19 h
    clear ev19
    refine lv_iload hx hb dX12_readSource_257 (lv_at hl 7 rfl) ?_
    obtain ⟨g20, h⟩ := oif_some h
    refine m_iast E G 13 5 (k := v19.toNatClampNeg) (v := l6) rfl (fun _ => rfl) (inb_k g20).1 (inb_k g20).2 (by decide) dX12_readSource_259 (fun H locs G => ?_)
    obtain ⟨S21, eS21, h⟩ := elet_some h
    rw [← eS21] at G
    clear eS21
    refine lv_aload_n hx hb dX12_readSource_260 rfl (lv_at hl 1 rfl) ?_
    refine m_get E G 11 (v := .ref (ad 11)) (by decide) (.tail _ qM_8) rfl dX12_readSource_261 rfl ?_
    refine lv_bipush (v := 47) hx hb dX12_readSource_264 (by decide) ?_
    refine lv_iload_n hx hb dX12_readSource_266 rfl (lv_at hl 2 rfl) ?_
    refine lv_iadd hx hb dX12_readSource_267 ?_
    refine lv_topi (fun v22 ev22 => ?_)
    have h := elet_at ev22 h
    clear ev22
    refine lv_iload_n hx hb dX12_readSource_268 rfl (lv_at hl 3 rfl) ?_
    obtain ⟨g23, h⟩ := oif_some h
    refine m_iast E G 11 3 (k := v22.toNatClampNeg) (v := l2) rfl (fun _ => rfl) (inb_k g23).1 (inb_k g23).2 (by decide) dX12_readSource_269 (fun H locs G => ?_)
    obtain ⟨S24, eS24, h⟩ := elet_some h
    rw [← eS24] at G
    clear eS24
    refine lv_aload_n hx hb dX12_readSource_270 rfl (lv_at hl 1 rfl) ?_
    refine m_get E G 11 (v := .ref (ad 11)) (by decide) (.tail _ qM_8) rfl dX12_readSource_271 rfl ?_
    refine lv_bipush (v := 53) hx hb dX12_readSource_274 (by decide) ?_
    refine lv_iload_n hx hb dX12_readSource_276 rfl (lv_at hl 2 rfl) ?_
    refine lv_iadd hx hb dX12_readSource_277 ?_
    refine lv_topi (fun v25 ev25 => ?_)
    have h := elet_at ev25 h
    clear ev25
    refine lv_iload hx hb dX12_readSource_278 (lv_at hl 8 rfl) ?_
    obtain ⟨g26, h⟩ := oif_some h
    refine m_iast E G 11 3 (k := v25.toNatClampNeg) (v := l7) rfl (fun _ => rfl) (inb_k g26).1 (inb_k g26).2 (by decide) dX12_readSource_280 (fun H locs G => ?_)
    obtain ⟨S27, eS27, h⟩ := elet_some h
    rw [← eS27] at G
    clear eS27
    refine lv_aload_n hx hb dX12_readSource_281 rfl (lv_at hl 1 rfl) ?_
    refine m_get E G 11 (v := .ref (ad 11)) (by decide) (.tail _ qM_8) rfl dX12_readSource_282 rfl ?_
    refine lv_bipush (v := 59) hx hb dX12_readSource_285 (by decide) ?_
    refine lv_iload_n hx hb dX12_readSource_287 rfl (lv_at hl 2 rfl) ?_
    refine lv_iadd hx hb dX12_readSource_288 ?_
    refine lv_topi (fun v28 ev28 => ?_)
    have h := elet_at ev28 h
    clear ev28
    refine lv_iload hx hb dX12_readSource_289 (lv_at hl 9 rfl) ?_
    obtain ⟨g29, h⟩ := oif_some h
    refine m_iast E G 11 3 (k := v28.toNatClampNeg) (v := l8) rfl (fun _ => rfl) (inb_k g29).1 (inb_k g29).2 (by decide) dX12_readSource_291 (fun H locs G => ?_)
    obtain ⟨S30, eS30, h⟩ := elet_some h
    rw [← eS30] at G
    clear eS30
    refine lv_aload_n hx hb dX12_readSource_292 rfl (lv_at hl 1 rfl) ?_
    refine m_get E G 11 (v := .ref (ad 11)) (by decide) (.tail _ qM_8) rfl dX12_readSource_293 rfl ?_
    refine lv_bipush (v := 65) hx hb dX12_readSource_296 (by decide) ?_
    refine lv_iload_n hx hb dX12_readSource_298 rfl (lv_at hl 2 rfl) ?_
    refine lv_iadd hx hb dX12_readSource_299 ?_
    refine lv_topi (fun v31 ev31 => ?_)
    have h := elet_at ev31 h
    clear ev31
    refine lv_iload hx hb dX12_readSource_300 (lv_at hl 10 rfl) ?_
    obtain ⟨g32, h⟩ := oif_some h
    refine m_iast E G 11 3 (k := v31.toNatClampNeg) (v := l9) rfl (fun _ => rfl) (inb_k g32).1 (inb_k g32).2 (by decide) dX12_readSource_302 (fun H locs G => ?_)
    obtain ⟨S33, eS33, h⟩ := elet_some h
    rw [← eS33] at G
    clear eS33
    refine lv_aload_n hx hb dX12_readSource_303 rfl (lv_at hl 1 rfl) ?_
    refine m_get E G 11 (v := .ref (ad 11)) (by decide) (.tail _ qM_8) rfl dX12_readSource_304 rfl ?_
    refine lv_iconst (v := 5) hx hb dX12_readSource_307 (by decide) ?_
    refine lv_dup2_11 hx hb dX12_readSource_308 rfl rfl ?_
    refine m_iald E G 11 3 (n := 131) (k := 5) rfl rfl (by decide) (by decide) dX12_readSource_309 ?_
    refine lv_topi (fun v34 ev34 => ?_)
    have h := elet_at ev34 h
    clear ev34
    refine lv_iconst (v := 1) hx hb dX12_readSource_310 (by decide) ?_
    refine lv_iadd hx hb dX12_readSource_311 ?_
    refine lv_topi (fun v35 ev35 => ?_)
    have h := elet_at ev35 h
    clear ev35
    refine m_iast E G 11 3 (k := 5) (v := v35) rfl (fun _ => rfl) rfl (by decide) (by decide) dX12_readSource_312 (fun H locs G => ?_)
    obtain ⟨S36, eS36, h⟩ := elet_some h
    rw [← eS36] at G
    clear eS36
    rw [osome1 h] at G
    exact kr313 _ _ _ G
  · have h := oif_neg c3 h
    rw [osome1 h] at G
    exact kr195 _ _ _ G
def fr_readSource_b86  (S : MS) (l1 : Int32) (l2 : Int32) : Option (MS) := obind (fr_nextToken S) fun S2 => obind2 (fr_signed S2 (-2000) 2000) fun r8 S5 => obind2 (fr_signed S5 (-2000) 2000) fun r12 S9 => obind2 (fr_signed S9 (-999) 999) fun r16 S13 => obind2 (fr_signed S13 (-999) 999) fun r20 S17 => obind2 (fr_number S17 1 999) fun r24 S21 => obind2 (fr_number S21 2 99) fun r28 S25 => obind2 (fr_number S25 0 99) fun r32 S29 => obind2 (fr_takes S29 (sTx "from")) fun r37 S34 => if r37 = 0 then (fr_readSource_b186 S34 0 l1 l2 r8 r12 r16 r20 r24 r28 r32) else (obind2 (fr_number S34 0 199) fun r42 S39 => fr_readSource_b186 S39 r42 l1 l2 r8 r12 r16 r20 r24 r28 r32)
set_option maxHeartbeats 4000000 in
set_option maxRecDepth 100000 in
theorem tr_readSource_b86 {p : Program} {l : Launch} {e : Env} {s : State} {m : MethodId} {args : Array Value} {below : List Frame} {meth : Method} {c : Code} {Q : State → Prop} {D : va_G} {A : Nat → Prop} {cI cJ cZ : ClassId} {ad : Nat → Nat} {S1 : MS} (E : mE p c cX12_readSource s m args (Cond.code yX12_readSource cX12_readSource 11 none :: wsM) D cI cJ cZ) (hA : ∀ q : Nat, s.heap.size ≤ q → A q) (hR : sR s) (hml : c.maxLocals = 11) {h0 : Nat} (hA0 : ∀ a : Nat, A a → h0 ≤ a) (hT : sAll h0 s) (kr195 : ∀ (H : Heap) (locs : List Loc) (ls : Array Slot), mG D cI cJ cZ ad A s.heap H locs S1 → W p l e { frames := 7, cells := 0, slots := 0, locals := 131 } s m args below meth c H locs 0 0 Q (F0 m 195 ls [])) (kr313 : ∀ (H : Heap) (locs : List Loc) (ls : Array Slot), mG D cI cJ cZ ad A s.heap H locs S1 → W p l e { frames := 7, cells := 0, slots := 0, locals := 131 } s m args below meth c H locs 0 0 Q (F0 m 313 ls [])) : ∀ (S : MS) (H : Heap) (locs : List Loc) (ls : Array Slot) (l1 : Int32) (l2 : Int32), fr_readSource_b86 S l1 l2 = some S1 → mG D cI cJ cZ ad A s.heap H locs S → lv_has ls 11 [(0, .ref (ad 0)), (1, .int l1), (2, .int l2)] → W p l e { frames := 7, cells := 0, slots := 0, locals := 131 } s m args below meth c H locs 0 0 Q (F0 m 86 ls []) := by
  have hx := E.1
  have hb := E.2.1
  have hts := E.2.2.1
  have hown := E.2.2.2.1
  have hK := E.2.2.2.2.1
  intro S H locs ls l1 l2 h G hl
  unfold fr_readSource_b86 at h
  refine lv_aload_n hx hb dX12_readSource_86 rfl (lv_at hl 0 rfl) ?_
  obtain ⟨S2, eS2, h⟩ := obind_some h
  refine m_callv (As := []) (rest := []) E G hA hR hml (tr_nextToken l D cI cJ cZ ad S eS2) (cwV 0 hts (gmV qM_111 qM_112 qM_113 qM_35 qM_45) rfl rfl rfl (by decide +kernel) ⟨Nat.le_of_ble_eq_true rfl, Nat.le_of_ble_eq_true rfl⟩) rfl hl.1 rfl (lv_room (Nat.le_of_ble_eq_true rfl)) dX12_readSource_87 ⟨Nat.zero_le _, Nat.zero_le _⟩ (fun S4 H locs hq G => ?_)
  rw [hq] at G
  clear hq eS2
  refine lv_aload_n hx hb dX12_readSource_90 rfl (lv_at hl 0 rfl) ?_
  refine lv_sipush (v := (-2000)) hx hb dX12_readSource_91 (by decide) ?_
  refine lv_sipush (v := 2000) hx hb dX12_readSource_94 (by decide) ?_
  obtain ⟨r8, S5, eS5, h⟩ := obind2_some h
  refine m_calli (As := [.int (-2000), .int 2000]) (rest := []) E G hA hR hml (tr_signed l D cI cJ cZ ad S2 (-2000) 2000 eS5) (cwV 2 hts (gmV qM_142 qM_143 qM_144 qM_35 qM_133) rfl rfl rfl (by decide +kernel) ⟨Nat.le_of_ble_eq_true rfl, Nat.le_of_ble_eq_true rfl⟩) rfl hl.1 rfl (lv_room (Nat.le_of_ble_eq_true rfl)) dX12_readSource_97 ⟨Nat.zero_le _, Nat.zero_le _⟩ (fun q6 S7 H locs hq G => ?_)
  obtain ⟨hq1, hq2⟩ := hq
  rw [hq2] at G
  refine lv_to hq1 ?_
  clear hq1 hq2 eS5
  refine lv_istore_n (lv' := [(3, .int r8), (0, .ref (ad 0)), (1, .int l1), (2, .int l2)]) hx hb dX12_readSource_100 rfl hl (by decide) rfl (fun ls hl => ?_)
  refine lv_aload_n hx hb dX12_readSource_101 rfl (lv_at hl 1 rfl) ?_
  refine lv_sipush (v := (-2000)) hx hb dX12_readSource_102 (by decide) ?_
  refine lv_sipush (v := 2000) hx hb dX12_readSource_105 (by decide) ?_
  obtain ⟨r12, S9, eS9, h⟩ := obind2_some h
  refine m_calli (As := [.int (-2000), .int 2000]) (rest := []) E G hA hR hml (tr_signed l D cI cJ cZ ad S5 (-2000) 2000 eS9) (cwV 2 hts (gmV qM_142 qM_143 qM_144 qM_35 qM_133) rfl rfl rfl (by decide +kernel) ⟨Nat.le_of_ble_eq_true rfl, Nat.le_of_ble_eq_true rfl⟩) rfl hl.1 rfl (lv_room (Nat.le_of_ble_eq_true rfl)) dX12_readSource_108 ⟨Nat.zero_le _, Nat.zero_le _⟩ (fun q10 S11 H locs hq G => ?_)
  obtain ⟨hq1, hq2⟩ := hq
  rw [hq2] at G
  refine lv_to hq1 ?_
  clear hq1 hq2 eS9
  refine lv_istore (lv' := [(4, .int r12), (3, .int r8), (0, .ref (ad 0)), (1, .int l1), (2, .int l2)]) hx hb dX12_readSource_111 hl (by decide) rfl (fun ls hl => ?_)
  refine lv_aload_n hx hb dX12_readSource_113 rfl (lv_at hl 2 rfl) ?_
  refine lv_sipush (v := (-999)) hx hb dX12_readSource_114 (by decide) ?_
  refine lv_sipush (v := 999) hx hb dX12_readSource_117 (by decide) ?_
  obtain ⟨r16, S13, eS13, h⟩ := obind2_some h
  refine m_calli (As := [.int (-999), .int 999]) (rest := []) E G hA hR hml (tr_signed l D cI cJ cZ ad S9 (-999) 999 eS13) (cwV 2 hts (gmV qM_142 qM_143 qM_144 qM_35 qM_133) rfl rfl rfl (by decide +kernel) ⟨Nat.le_of_ble_eq_true rfl, Nat.le_of_ble_eq_true rfl⟩) rfl hl.1 rfl (lv_room (Nat.le_of_ble_eq_true rfl)) dX12_readSource_120 ⟨Nat.zero_le _, Nat.zero_le _⟩ (fun q14 S15 H locs hq G => ?_)
  obtain ⟨hq1, hq2⟩ := hq
  rw [hq2] at G
  refine lv_to hq1 ?_
  clear hq1 hq2 eS13
  refine lv_istore (lv' := [(5, .int r16), (4, .int r12), (3, .int r8), (0, .ref (ad 0)), (1, .int l1), (2, .int l2)]) hx hb dX12_readSource_123 hl (by decide) rfl (fun ls hl => ?_)
  refine lv_aload_n hx hb dX12_readSource_125 rfl (lv_at hl 3 rfl) ?_
  refine lv_sipush (v := (-999)) hx hb dX12_readSource_126 (by decide) ?_
  refine lv_sipush (v := 999) hx hb dX12_readSource_129 (by decide) ?_
  obtain ⟨r20, S17, eS17, h⟩ := obind2_some h
  refine m_calli (As := [.int (-999), .int 999]) (rest := []) E G hA hR hml (tr_signed l D cI cJ cZ ad S13 (-999) 999 eS17) (cwV 2 hts (gmV qM_142 qM_143 qM_144 qM_35 qM_133) rfl rfl rfl (by decide +kernel) ⟨Nat.le_of_ble_eq_true rfl, Nat.le_of_ble_eq_true rfl⟩) rfl hl.1 rfl (lv_room (Nat.le_of_ble_eq_true rfl)) dX12_readSource_132 ⟨Nat.zero_le _, Nat.zero_le _⟩ (fun q18 S19 H locs hq G => ?_)
  obtain ⟨hq1, hq2⟩ := hq
  rw [hq2] at G
  refine lv_to hq1 ?_
  clear hq1 hq2 eS17
  refine lv_istore (lv' := [(6, .int r20), (5, .int r16), (4, .int r12), (3, .int r8), (0, .ref (ad 0)), (1, .int l1), (2, .int l2)]) hx hb dX12_readSource_135 hl (by decide) rfl (fun ls hl => ?_)
  refine lv_aload_n hx hb dX12_readSource_137 rfl (lv_at hl 4 rfl) ?_
  refine lv_iconst (v := 1) hx hb dX12_readSource_138 (by decide) ?_
  refine lv_sipush (v := 999) hx hb dX12_readSource_139 (by decide) ?_
  obtain ⟨r24, S21, eS21, h⟩ := obind2_some h
  refine m_calli (As := [.int 1, .int 999]) (rest := []) E G hA hR hml (tr_number l D cI cJ cZ ad S17 1 999 eS21) (cwV 2 hts (gmV qM_130 qM_131 qM_132 qM_35 qM_122) rfl rfl rfl (by decide +kernel) ⟨Nat.le_of_ble_eq_true rfl, Nat.le_of_ble_eq_true rfl⟩) rfl hl.1 rfl (lv_room (Nat.le_of_ble_eq_true rfl)) dX12_readSource_142 ⟨Nat.zero_le _, Nat.zero_le _⟩ (fun q22 S23 H locs hq G => ?_)
  obtain ⟨hq1, hq2⟩ := hq
  rw [hq2] at G
  refine lv_to hq1 ?_
  clear hq1 hq2 eS21
  refine lv_istore (lv' := [(7, .int r24), (6, .int r20), (5, .int r16), (4, .int r12), (3, .int r8), (0, .ref (ad 0)), (1, .int l1), (2, .int l2)]) hx hb dX12_readSource_145 hl (by decide) rfl (fun ls hl => ?_)
  refine lv_aload_n hx hb dX12_readSource_147 rfl (lv_at hl 5 rfl) ?_
  refine lv_iconst (v := 2) hx hb dX12_readSource_148 (by decide) ?_
  refine lv_bipush (v := 99) hx hb dX12_readSource_149 (by decide) ?_
  obtain ⟨r28, S25, eS25, h⟩ := obind2_some h
  refine m_calli (As := [.int 2, .int 99]) (rest := []) E G hA hR hml (tr_number l D cI cJ cZ ad S21 2 99 eS25) (cwV 2 hts (gmV qM_130 qM_131 qM_132 qM_35 qM_122) rfl rfl rfl (by decide +kernel) ⟨Nat.le_of_ble_eq_true rfl, Nat.le_of_ble_eq_true rfl⟩) rfl hl.1 rfl (lv_room (Nat.le_of_ble_eq_true rfl)) dX12_readSource_151 ⟨Nat.zero_le _, Nat.zero_le _⟩ (fun q26 S27 H locs hq G => ?_)
  obtain ⟨hq1, hq2⟩ := hq
  rw [hq2] at G
  refine lv_to hq1 ?_
  clear hq1 hq2 eS25
  refine lv_istore (lv' := [(8, .int r28), (7, .int r24), (6, .int r20), (5, .int r16), (4, .int r12), (3, .int r8), (0, .ref (ad 0)), (1, .int l1), (2, .int l2)]) hx hb dX12_readSource_154 hl (by decide) rfl (fun ls hl => ?_)
  refine lv_aload_n hx hb dX12_readSource_156 rfl (lv_at hl 6 rfl) ?_
  refine lv_iconst (v := 0) hx hb dX12_readSource_157 (by decide) ?_
  refine lv_bipush (v := 99) hx hb dX12_readSource_158 (by decide) ?_
  obtain ⟨r32, S29, eS29, h⟩ := obind2_some h
  refine m_calli (As := [.int 0, .int 99]) (rest := []) E G hA hR hml (tr_number l D cI cJ cZ ad S25 0 99 eS29) (cwV 2 hts (gmV qM_130 qM_131 qM_132 qM_35 qM_122) rfl rfl rfl (by decide +kernel) ⟨Nat.le_of_ble_eq_true rfl, Nat.le_of_ble_eq_true rfl⟩) rfl hl.1 rfl (lv_room (Nat.le_of_ble_eq_true rfl)) dX12_readSource_160 ⟨Nat.zero_le _, Nat.zero_le _⟩ (fun q30 S31 H locs hq G => ?_)
  obtain ⟨hq1, hq2⟩ := hq
  rw [hq2] at G
  refine lv_to hq1 ?_
  clear hq1 hq2 eS29
  refine lv_istore (lv' := [(9, .int r32), (8, .int r28), (7, .int r24), (6, .int r20), (5, .int r16), (4, .int r12), (3, .int r8), (0, .ref (ad 0)), (1, .int l1), (2, .int l2)]) hx hb dX12_readSource_163 hl (by decide) rfl (fun ls hl => ?_)
  refine lv_aload_n hx hb dX12_readSource_165 rfl (lv_at hl 7 rfl) ?_
  obtain ⟨w33, hw33, ow33⟩ := hT.1 ("AcousticCameraModel", 169, "from") (List.mem_of_getElem? (i := 39) rfl)
  refine va_ldcS hx hb hown hw33 dX12_readSource_166 ?_
  obtain ⟨r37, S34, eS34, h⟩ := obind2_some h
  refine m_calliX (As := [.ref w33]) (rest := []) E G hA hR hml (tr_takes l D cI cJ cZ ad S29 h0 (q := w33) (sTx_ok (by decide +kernel)) eS34) (cwV 1 hts (gmV qM_115 qM_116 qM_117 qM_35 qM_107) rfl rfl rfl (by decide +kernel) ⟨Nat.le_of_ble_eq_true rfl, Nat.le_of_ble_eq_true rfl⟩) rfl hl.1 rfl (lv_room (Nat.le_of_ble_eq_true rfl)) dX12_readSource_168 ⟨Nat.zero_le _, Nat.zero_le _⟩ (xT1.blind) (xT1.go hT hA0 hA G ow33) (fun q35 S36 H locs hq G => ?_)
  obtain ⟨hq1, hq2⟩ := hq
  rw [hq2] at G
  refine lv_to hq1 ?_
  clear hq1 hq2 eS34
  refine lv_if_eq (tgt := 185) hx hb dX12_readSource_171 (by decide) (fun c38 => ?_) (fun c38 => ?_)
  · have h := oif_pos c38 h
    refine lv_iconst (v := 0) hx hb dX12_readSource_185 (by decide) ?_
    have hl := lv_sub hl [7, 8, 9, 6, 5, 4, 3, 2, 1, 0] rfl
    exact tr_readSource_b186 E hA hR hml hA0 hT kr195 kr313 _ _ _ _ _ _ _ _ _ _ _ _ _ _ h G hl
  · have h := oif_neg c38 h
    refine lv_aload_n hx hb dX12_readSource_174 rfl (lv_at hl 7 rfl) ?_
    refine lv_iconst (v := 0) hx hb dX12_readSource_175 (by decide) ?_
    refine lv_sipush (v := 199) hx hb dX12_readSource_176 (by decide) ?_
    obtain ⟨r42, S39, eS39, h⟩ := obind2_some h
    refine m_calli (As := [.int 0, .int 199]) (rest := []) E G hA hR hml (tr_number l D cI cJ cZ ad S34 0 199 eS39) (cwV 2 hts (gmV qM_130 qM_131 qM_132 qM_35 qM_122) rfl rfl rfl (by decide +kernel) ⟨Nat.le_of_ble_eq_true rfl, Nat.le_of_ble_eq_true rfl⟩) rfl hl.1 rfl (lv_room (Nat.le_of_ble_eq_true rfl)) dX12_readSource_179 ⟨Nat.zero_le _, Nat.zero_le _⟩ (fun q40 S41 H locs hq G => ?_)
    obtain ⟨hq1, hq2⟩ := hq
    rw [hq2] at G
    refine lv_to hq1 ?_
    clear hq1 hq2 eS39
    refine lv_goto (tgt := 186) hx hb dX12_readSource_182 (by decide) ?_
    have hl := lv_sub hl [7, 8, 9, 6, 5, 4, 3, 2, 1, 0] rfl
    exact tr_readSource_b186 E hA hR hml hA0 hT kr195 kr313 _ _ _ _ _ _ _ _ _ _ _ _ _ _ h G hl
def fr_readSource_b75  (S : MS) (s0 : Int32) (l1 : Int32) : Option (MS) := if s0 = (-1) then (obind (fr_faults S 1) fun S3 => fr_readSource_b86 S3 l1 s0) else (fr_readSource_b86 S l1 s0)
set_option maxHeartbeats 4000000 in
set_option maxRecDepth 100000 in
theorem tr_readSource_b75 {p : Program} {l : Launch} {e : Env} {s : State} {m : MethodId} {args : Array Value} {below : List Frame} {meth : Method} {c : Code} {Q : State → Prop} {D : va_G} {A : Nat → Prop} {cI cJ cZ : ClassId} {ad : Nat → Nat} {S1 : MS} (E : mE p c cX12_readSource s m args (Cond.code yX12_readSource cX12_readSource 11 none :: wsM) D cI cJ cZ) (hA : ∀ q : Nat, s.heap.size ≤ q → A q) (hR : sR s) (hml : c.maxLocals = 11) {h0 : Nat} (hA0 : ∀ a : Nat, A a → h0 ≤ a) (hT : sAll h0 s) (kr195 : ∀ (H : Heap) (locs : List Loc) (ls : Array Slot), mG D cI cJ cZ ad A s.heap H locs S1 → W p l e { frames := 7, cells := 0, slots := 0, locals := 131 } s m args below meth c H locs 0 0 Q (F0 m 195 ls [])) (kr313 : ∀ (H : Heap) (locs : List Loc) (ls : Array Slot), mG D cI cJ cZ ad A s.heap H locs S1 → W p l e { frames := 7, cells := 0, slots := 0, locals := 131 } s m args below meth c H locs 0 0 Q (F0 m 313 ls [])) : ∀ (S : MS) (H : Heap) (locs : List Loc) (ls : Array Slot) (s0 : Int32) (l1 : Int32), fr_readSource_b75 S s0 l1 = some S1 → mG D cI cJ cZ ad A s.heap H locs S → lv_has ls 11 [(0, .ref (ad 0)), (1, .int l1)] → W p l e { frames := 7, cells := 0, slots := 0, locals := 131 } s m args below meth c H locs 0 0 Q (F0 m 75 ls [.int s0]) := by
  have hx := E.1
  have hb := E.2.1
  have hts := E.2.2.1
  have hown := E.2.2.2.1
  have hK := E.2.2.2.2.1
  intro S H locs ls s0 l1 h G hl
  unfold fr_readSource_b75 at h
  refine lv_istore_n (lv' := [(2, .int s0), (0, .ref (ad 0)), (1, .int l1)]) hx hb dX12_readSource_75 rfl hl (by decide) rfl (fun ls hl => ?_)
  refine lv_iload_n hx hb dX12_readSource_76 rfl (lv_at hl 0 rfl) ?_
  refine lv_iconst (v := (-1)) hx hb dX12_readSource_77 (by decide) ?_
  refine lv_icmp_ne (tgt := 86) hx hb dX12_readSource_78 (by decide) (fun c2 => ?_) (fun c2 => ?_)
  · have h := oif_neg c2 h
    have hl := lv_sub hl [1, 2, 0] rfl
    exact tr_readSource_b86 E hA hR hml hA0 hT kr195 kr313 _ _ _ _ _ _ h G hl
  · have h := oif_pos c2 h
    refine lv_aload_n hx hb dX12_readSource_81 rfl (lv_at hl 1 rfl) ?_
    refine lv_iconst (v := 1) hx hb dX12_readSource_82 (by decide) ?_
    obtain ⟨S3, eS3, h⟩ := obind_some h
    refine m_callv (As := [.int 1]) (rest := []) E G hA hR hml (tr_faults l D cI cJ cZ ad S 1 eS3) (cwV 1 hts (gmV qM_118 qM_119 qM_120 qM_35 qM_42) rfl rfl rfl (by decide +kernel) ⟨Nat.le_of_ble_eq_true rfl, Nat.le_of_ble_eq_true rfl⟩) rfl hl.1 rfl (lv_room (Nat.le_of_ble_eq_true rfl)) dX12_readSource_83 ⟨Nat.zero_le _, Nat.zero_le _⟩ (fun S5 H locs hq G => ?_)
    rw [hq] at G
    clear hq eS3
    have hl := lv_sub hl [1, 2, 0] rfl
    exact tr_readSource_b86 E hA hR hml hA0 hT kr195 kr313 _ _ _ _ _ _ h G hl
def fr_readSource_b18  (S : MS) (l1 : Int32) : Option (MS) := obind (fr_nextToken S) fun S2 => obind2 (fr_isWord S2 (sTx "square")) fun r9 S6 => if r9 = 0 then (obind2 (fr_isWord S6 (sTx "triangle")) fun r15 S12 => if r15 = 0 then (obind2 (fr_isWord S12 (sTx "pulse")) fun r21 S18 => if r21 = 0 then (obind2 (fr_isWord S18 (sTx "noise")) fun r27 S24 => if r27 = 0 then (fr_readSource_b75 S24 (-1) l1) else (fr_readSource_b75 S24 3 l1)) else (fr_readSource_b75 S18 2 l1)) else (fr_readSource_b75 S12 1 l1)) else (fr_readSource_b75 S6 0 l1)
set_option maxHeartbeats 4000000 in
set_option maxRecDepth 100000 in
theorem tr_readSource_b18 {p : Program} {l : Launch} {e : Env} {s : State} {m : MethodId} {args : Array Value} {below : List Frame} {meth : Method} {c : Code} {Q : State → Prop} {D : va_G} {A : Nat → Prop} {cI cJ cZ : ClassId} {ad : Nat → Nat} {S1 : MS} (E : mE p c cX12_readSource s m args (Cond.code yX12_readSource cX12_readSource 11 none :: wsM) D cI cJ cZ) (hA : ∀ q : Nat, s.heap.size ≤ q → A q) (hR : sR s) (hml : c.maxLocals = 11) {h0 : Nat} (hA0 : ∀ a : Nat, A a → h0 ≤ a) (hT : sAll h0 s) (kr195 : ∀ (H : Heap) (locs : List Loc) (ls : Array Slot), mG D cI cJ cZ ad A s.heap H locs S1 → W p l e { frames := 7, cells := 0, slots := 0, locals := 131 } s m args below meth c H locs 0 0 Q (F0 m 195 ls [])) (kr313 : ∀ (H : Heap) (locs : List Loc) (ls : Array Slot), mG D cI cJ cZ ad A s.heap H locs S1 → W p l e { frames := 7, cells := 0, slots := 0, locals := 131 } s m args below meth c H locs 0 0 Q (F0 m 313 ls [])) : ∀ (S : MS) (H : Heap) (locs : List Loc) (ls : Array Slot) (l1 : Int32), fr_readSource_b18 S l1 = some S1 → mG D cI cJ cZ ad A s.heap H locs S → lv_has ls 11 [(0, .ref (ad 0)), (1, .int l1)] → W p l e { frames := 7, cells := 0, slots := 0, locals := 131 } s m args below meth c H locs 0 0 Q (F0 m 18 ls []) := by
  have hx := E.1
  have hb := E.2.1
  have hts := E.2.2.1
  have hown := E.2.2.2.1
  have hK := E.2.2.2.2.1
  intro S H locs ls l1 h G hl
  unfold fr_readSource_b18 at h
  refine lv_aload_n hx hb dX12_readSource_18 rfl (lv_at hl 0 rfl) ?_
  obtain ⟨S2, eS2, h⟩ := obind_some h
  refine m_callv (As := []) (rest := []) E G hA hR hml (tr_nextToken l D cI cJ cZ ad S eS2) (cwV 0 hts (gmV qM_111 qM_112 qM_113 qM_35 qM_45) rfl rfl rfl (by decide +kernel) ⟨Nat.le_of_ble_eq_true rfl, Nat.le_of_ble_eq_true rfl⟩) rfl hl.1 rfl (lv_room (Nat.le_of_ble_eq_true rfl)) dX12_readSource_19 ⟨Nat.zero_le _, Nat.zero_le _⟩ (fun S4 H locs hq G => ?_)
  rw [hq] at G
  clear hq eS2
  refine lv_aload_n hx hb dX12_readSource_22 rfl (lv_at hl 0 rfl) ?_
  obtain ⟨w5, hw5, ow5⟩ := hT.1 ("AcousticCameraModel", 161, "square") (List.mem_of_getElem? (i := 35) rfl)
  refine va_ldcS hx hb hown hw5 dX12_readSource_23 ?_
  obtain ⟨r9, S6, eS6, h⟩ := obind2_some h
  refine m_calliX (As := [.ref w5]) (rest := []) E G hA hR hml (tr_isWord l D cI cJ cZ ad S2 h0 (q := w5) (sTx_ok (by decide +kernel)) eS6) (cwV 1 hts (gmV qM_108 qM_109 qM_110 qM_35 qM_57) rfl rfl rfl (by decide +kernel) ⟨Nat.le_of_ble_eq_true rfl, Nat.le_of_ble_eq_true rfl⟩) rfl hl.1 rfl (lv_room (Nat.le_of_ble_eq_true rfl)) dX12_readSource_25 ⟨Nat.zero_le _, Nat.zero_le _⟩ (xT1.blind) (xT1.go hT hA0 hA G ow5) (fun q7 S8 H locs hq G => ?_)
  obtain ⟨hq1, hq2⟩ := hq
  rw [hq2] at G
  refine lv_to hq1 ?_
  clear hq1 hq2 eS6
  refine lv_if_eq (tgt := 35) hx hb dX12_readSource_28 (by decide) (fun c10 => ?_) (fun c10 => ?_)
  · have h := oif_pos c10 h
    refine lv_aload_n hx hb dX12_readSource_35 rfl (lv_at hl 0 rfl) ?_
    obtain ⟨w11, hw11, ow11⟩ := hT.1 ("AcousticCameraModel", 163, "triangle") (List.mem_of_getElem? (i := 36) rfl)
    refine va_ldcS hx hb hown hw11 dX12_readSource_36 ?_
    obtain ⟨r15, S12, eS12, h⟩ := obind2_some h
    refine m_calliX (As := [.ref w11]) (rest := []) E G hA hR hml (tr_isWord l D cI cJ cZ ad S6 h0 (q := w11) (sTx_ok (by decide +kernel)) eS12) (cwV 1 hts (gmV qM_108 qM_109 qM_110 qM_35 qM_57) rfl rfl rfl (by decide +kernel) ⟨Nat.le_of_ble_eq_true rfl, Nat.le_of_ble_eq_true rfl⟩) rfl hl.1 rfl (lv_room (Nat.le_of_ble_eq_true rfl)) dX12_readSource_38 ⟨Nat.zero_le _, Nat.zero_le _⟩ (xT1.blind) (xT1.go hT hA0 hA G ow11) (fun q13 S14 H locs hq G => ?_)
    obtain ⟨hq1, hq2⟩ := hq
    rw [hq2] at G
    refine lv_to hq1 ?_
    clear hq1 hq2 eS12
    refine lv_if_eq (tgt := 48) hx hb dX12_readSource_41 (by decide) (fun c16 => ?_) (fun c16 => ?_)
    · have h := oif_pos c16 h
      refine lv_aload_n hx hb dX12_readSource_48 rfl (lv_at hl 0 rfl) ?_
      obtain ⟨w17, hw17, ow17⟩ := hT.1 ("AcousticCameraModel", 165, "pulse") (List.mem_of_getElem? (i := 37) rfl)
      refine va_ldcS hx hb hown hw17 dX12_readSource_49 ?_
      obtain ⟨r21, S18, eS18, h⟩ := obind2_some h
      refine m_calliX (As := [.ref w17]) (rest := []) E G hA hR hml (tr_isWord l D cI cJ cZ ad S12 h0 (q := w17) (sTx_ok (by decide +kernel)) eS18) (cwV 1 hts (gmV qM_108 qM_109 qM_110 qM_35 qM_57) rfl rfl rfl (by decide +kernel) ⟨Nat.le_of_ble_eq_true rfl, Nat.le_of_ble_eq_true rfl⟩) rfl hl.1 rfl (lv_room (Nat.le_of_ble_eq_true rfl)) dX12_readSource_51 ⟨Nat.zero_le _, Nat.zero_le _⟩ (xT1.blind) (xT1.go hT hA0 hA G ow17) (fun q19 S20 H locs hq G => ?_)
      obtain ⟨hq1, hq2⟩ := hq
      rw [hq2] at G
      refine lv_to hq1 ?_
      clear hq1 hq2 eS18
      refine lv_if_eq (tgt := 61) hx hb dX12_readSource_54 (by decide) (fun c22 => ?_) (fun c22 => ?_)
      · have h := oif_pos c22 h
        refine lv_aload_n hx hb dX12_readSource_61 rfl (lv_at hl 0 rfl) ?_
        obtain ⟨w23, hw23, ow23⟩ := hT.1 ("AcousticCameraModel", 167, "noise") (List.mem_of_getElem? (i := 38) rfl)
        refine va_ldcS hx hb hown hw23 dX12_readSource_62 ?_
        obtain ⟨r27, S24, eS24, h⟩ := obind2_some h
        refine m_calliX (As := [.ref w23]) (rest := []) E G hA hR hml (tr_isWord l D cI cJ cZ ad S18 h0 (q := w23) (sTx_ok (by decide +kernel)) eS24) (cwV 1 hts (gmV qM_108 qM_109 qM_110 qM_35 qM_57) rfl rfl rfl (by decide +kernel) ⟨Nat.le_of_ble_eq_true rfl, Nat.le_of_ble_eq_true rfl⟩) rfl hl.1 rfl (lv_room (Nat.le_of_ble_eq_true rfl)) dX12_readSource_64 ⟨Nat.zero_le _, Nat.zero_le _⟩ (xT1.blind) (xT1.go hT hA0 hA G ow23) (fun q25 S26 H locs hq G => ?_)
        obtain ⟨hq1, hq2⟩ := hq
        rw [hq2] at G
        refine lv_to hq1 ?_
        clear hq1 hq2 eS24
        refine lv_if_eq (tgt := 74) hx hb dX12_readSource_67 (by decide) (fun c28 => ?_) (fun c28 => ?_)
        · have h := oif_pos c28 h
          refine lv_iconst (v := (-1)) hx hb dX12_readSource_74 (by decide) ?_
          have hl := lv_sub hl [0, 1] rfl
          exact tr_readSource_b75 E hA hR hml hA0 hT kr195 kr313 _ _ _ _ _ _ h G hl
        · have h := oif_neg c28 h
          refine lv_iconst (v := 3) hx hb dX12_readSource_70 (by decide) ?_
          refine lv_goto (tgt := 75) hx hb dX12_readSource_71 (by decide) ?_
          have hl := lv_sub hl [0, 1] rfl
          exact tr_readSource_b75 E hA hR hml hA0 hT kr195 kr313 _ _ _ _ _ _ h G hl
      · have h := oif_neg c22 h
        refine lv_iconst (v := 2) hx hb dX12_readSource_57 (by decide) ?_
        refine lv_goto (tgt := 75) hx hb dX12_readSource_58 (by decide) ?_
        have hl := lv_sub hl [0, 1] rfl
        exact tr_readSource_b75 E hA hR hml hA0 hT kr195 kr313 _ _ _ _ _ _ h G hl
    · have h := oif_neg c16 h
      refine lv_iconst (v := 1) hx hb dX12_readSource_44 (by decide) ?_
      refine lv_goto (tgt := 75) hx hb dX12_readSource_45 (by decide) ?_
      have hl := lv_sub hl [0, 1] rfl
      exact tr_readSource_b75 E hA hR hml hA0 hT kr195 kr313 _ _ _ _ _ _ h G hl
  · have h := oif_neg c10 h
    refine lv_iconst (v := 0) hx hb dX12_readSource_31 (by decide) ?_
    refine lv_goto (tgt := 75) hx hb dX12_readSource_32 (by decide) ?_
    have hl := lv_sub hl [0, 1] rfl
    exact tr_readSource_b75 E hA hR hml hA0 hT kr195 kr313 _ _ _ _ _ _ h G hl
def fr_readSource (S : MS)  : Option (MS) := elet (S.2.1 11 5) fun v2 => if v2 = 6 then (obind (fr_faults S 4) fun S4 => fr_readSource_b18 S4 v2) else (fr_readSource_b18 S v2)
set_option maxHeartbeats 4000000 in
set_option maxRecDepth 100000 in
theorem tr_readSource (l : Launch) (D : va_G) (cI cJ cZ : ClassId) (ad : Nat → Nat) (S : MS) (h0 : Nat)  {S1 : MS} (h : fr_readSource S = some S1) : mCvX l yX12_readSource (Cond.code yX12_readSource cX12_readSource 11 none :: wsM) 7 131 D cI cJ cZ ad S [] (xT0 cI cJ cZ h0 ad S) (fun S9 => S9 = S1) := by
  intro sz
  refine pro_in (cc := cX12_readSource) (maxL := 11) (ret := none) (by exact pn_RX12) rfl (by exact Nat.le_of_ble_eq_true rfl) (fun p e s m below meth c ls hx hb hr hts hown hlocks hml hv hl => ?_)
  obtain ⟨⟨hsz, hP, hK, hD0, hR⟩, hA1, hT⟩ := hv
  subst hsz
  have hD := hD0.self (sz := s.heap.size)
  generalize hAe : va_A (MW cI cJ cZ ad S) s.heap.size = A at hD hA1 ⊢
  have hA : ∀ q : Nat, s.heap.size ≤ q → A q := fun q h => by rw [← hAe]; exact Or.inr h
  have G : mG D cI cJ cZ ad A s.heap s.heap [] S := ⟨hP, hD, va_S.rf⟩
  have E : mE p c cX12_readSource s m ([.ref (ad 0)] : List Value).toArray (Cond.code yX12_readSource cX12_readSource 11 none :: wsM) D cI cJ cZ := ⟨hx, hb, hts, hown, hK, fun w h => .tail _ (iM_x h)⟩
  have hA0 : ∀ a : Nat, A a → h0 ≤ a := hA1
  have hl : lv_has ls 11 [(0, .ref (ad 0))] := hl
  unfold fr_readSource at h
  refine lv_aload_n hx hb dX12_readSource_0 rfl (lv_at hl 0 rfl) ?_
  refine m_get E G 11 (v := .ref (ad 11)) (by decide) (.tail _ qM_8) rfl dX12_readSource_1 rfl ?_
  refine lv_iconst (v := 5) hx hb dX12_readSource_4 (by decide) ?_
  refine m_iald E G 11 3 (n := 131) (k := 5) rfl rfl (by decide) (by decide) dX12_readSource_5 ?_
  refine lv_topi (fun v2 ev2 => ?_)
  have h := elet_at ev2 h
  clear ev2
  refine lv_istore_n (lv' := [(1, .int v2), (0, .ref (ad 0))]) hx hb dX12_readSource_6 rfl hl (by decide) rfl (fun ls hl => ?_)
  refine lv_iload_n hx hb dX12_readSource_7 rfl (lv_at hl 0 rfl) ?_
  refine lv_bipush (v := 6) hx hb dX12_readSource_8 (by decide) ?_
  refine lv_icmp_ne (tgt := 18) hx hb dX12_readSource_10 (by decide) (fun c3 => ?_) (fun c3 => ?_)
  · have h := oif_neg c3 h
    have hl := lv_sub hl [1, 0] rfl
    exact tr_readSource_b18 E hA hR hml hA0 hT (fun H locs ls G => W.vret hx hb hr (fun t ht hW => ⟨⟨S1, rfl, rfl, ⟨by rw [ht]; exact G.1, va_K.moved hW.alike hK, G.2.1⟩⟩, G.2.2.F ht⟩) G.2.2.2.2 dX12_readSource_195) (fun H locs ls G => W.vret hx hb hr (fun t ht hW => ⟨⟨S1, rfl, rfl, ⟨by rw [ht]; exact G.1, va_K.moved hW.alike hK, G.2.1⟩⟩, G.2.2.F ht⟩) G.2.2.2.2 dX12_readSource_313) _ _ _ _ _ h G hl
  · have h := oif_pos c3 h
    refine lv_aload_n hx hb dX12_readSource_13 rfl (lv_at hl 1 rfl) ?_
    refine lv_iconst (v := 4) hx hb dX12_readSource_14 (by decide) ?_
    obtain ⟨S4, eS4, h⟩ := obind_some h
    refine m_callv (As := [.int 4]) (rest := []) E G hA hR hml (tr_faults l D cI cJ cZ ad S 4 eS4) (cwV 1 hts (gmV qM_118 qM_119 qM_120 qM_35 qM_42) rfl rfl rfl (by decide +kernel) ⟨Nat.le_of_ble_eq_true rfl, Nat.le_of_ble_eq_true rfl⟩) rfl hl.1 rfl (lv_room (Nat.le_of_ble_eq_true rfl)) dX12_readSource_15 ⟨Nat.zero_le _, Nat.zero_le _⟩ (fun S6 H locs hq G => ?_)
    rw [hq] at G
    clear hq eS4
    have hl := lv_sub hl [1, 0] rfl
    exact tr_readSource_b18 E hA hR hml hA0 hT (fun H locs ls G => W.vret hx hb hr (fun t ht hW => ⟨⟨S1, rfl, rfl, ⟨by rw [ht]; exact G.1, va_K.moved hW.alike hK, G.2.1⟩⟩, G.2.2.F ht⟩) G.2.2.2.2 dX12_readSource_195) (fun H locs ls G => W.vret hx hb hr (fun t ht hW => ⟨⟨S1, rfl, rfl, ⟨by rw [ht]; exact G.1, va_K.moved hW.alike hK, G.2.1⟩⟩, G.2.2.F ht⟩) G.2.2.2.2 dX12_readSource_313) _ _ _ _ _ h G hl
end
section
/-! 11d.dec2.lean.txt -/
def fr_readWall_b18  (S : MS) (l1 : Int32) : Option (MS) := obind (fr_nextToken S) fun S2 => obind2 (fr_signed S2 (-2000) 2000) fun r8 S5 => obind2 (fr_number S5 1 100) fun r12 S9 => elet (S9.1 5) fun v13 => if v13 ≤ 0 then (elet (72 + l1) fun v15 => oif (inb v15 131 = true) <| elet (mf S9 11 (upd (S9.2.1 11) v15.toNatClampNeg r8)) fun S17 => elet (74 + l1) fun v18 => oif (inb v18 131 = true) <| elet (mf S17 11 (upd (S17.2.1 11) v18.toNatClampNeg r12)) fun S20 => elet (S20.2.1 11 71) fun v21 => elet (v21 + 1) fun v22 => elet (mf S20 11 (upd (S20.2.1 11) 71 v22)) fun S23 => some S23) else (some S9)
set_option maxHeartbeats 4000000 in
set_option maxRecDepth 100000 in
theorem tr_readWall_b18 {p : Program} {l : Launch} {e : Env} {s : State} {m : MethodId} {args : Array Value} {below : List Frame} {meth : Method} {c : Code} {Q : State → Prop} {D : va_G} {A : Nat → Prop} {H0 : Heap} {cI cJ cZ : ClassId} {ad : Nat → Nat} {S1 : MS} (E : mE p c cX12_readWall s m args (Cond.code yX12_readWall cX12_readWall 4 none :: wsM) D cI cJ cZ) (hA : ∀ q : Nat, H0.size ≤ q → A q) (hR : sR s) (hml : c.maxLocals = 4) (kr48 : ∀ (H : Heap) (locs : List Loc) (ls : Array Slot), mG D cI cJ cZ ad A H0 H locs S1 → W p l e { frames := 5, cells := 0, slots := 0, locals := 90 } s m args below meth c H locs 0 0 Q (F0 m 48 ls [])) (kr80 : ∀ (H : Heap) (locs : List Loc) (ls : Array Slot), mG D cI cJ cZ ad A H0 H locs S1 → W p l e { frames := 5, cells := 0, slots := 0, locals := 90 } s m args below meth c H locs 0 0 Q (F0 m 80 ls [])) : ∀ (S : MS) (H : Heap) (locs : List Loc) (ls : Array Slot) (l1 : Int32), fr_readWall_b18 S l1 = some S1 → mG D cI cJ cZ ad A H0 H locs S → lv_has ls 4 [(0, .ref (ad 0)), (1, .int l1)] → W p l e { frames := 5, cells := 0, slots := 0, locals := 90 } s m args below meth c H locs 0 0 Q (F0 m 18 ls []) := by
  have hx := E.1
  have hb := E.2.1
  have hts := E.2.2.1
  have hown := E.2.2.2.1
  have hK := E.2.2.2.2.1
  intro S H locs ls l1 h G hl
  unfold fr_readWall_b18 at h
  refine lv_aload_n hx hb dX12_readWall_18 rfl (lv_at hl 0 rfl) ?_
  obtain ⟨S2, eS2, h⟩ := obind_some h
  refine m_callv (As := []) (rest := []) E G hA hR hml (tr_nextToken l D cI cJ cZ ad S eS2) (cwV 0 hts (gmV qM_111 qM_112 qM_113 qM_35 qM_45) rfl rfl rfl (by decide +kernel) ⟨Nat.le_of_ble_eq_true rfl, Nat.le_of_ble_eq_true rfl⟩) rfl hl.1 rfl (lv_room (Nat.le_of_ble_eq_true rfl)) dX12_readWall_19 ⟨Nat.zero_le _, Nat.zero_le _⟩ (fun S4 H locs hq G => ?_)
  rw [hq] at G
  clear hq eS2
  refine lv_aload_n hx hb dX12_readWall_22 rfl (lv_at hl 0 rfl) ?_
  refine lv_sipush (v := (-2000)) hx hb dX12_readWall_23 (by decide) ?_
  refine lv_sipush (v := 2000) hx hb dX12_readWall_26 (by decide) ?_
  obtain ⟨r8, S5, eS5, h⟩ := obind2_some h
  refine m_calli (As := [.int (-2000), .int 2000]) (rest := []) E G hA hR hml (tr_signed l D cI cJ cZ ad S2 (-2000) 2000 eS5) (cwV 2 hts (gmV qM_142 qM_143 qM_144 qM_35 qM_133) rfl rfl rfl (by decide +kernel) ⟨Nat.le_of_ble_eq_true rfl, Nat.le_of_ble_eq_true rfl⟩) rfl hl.1 rfl (lv_room (Nat.le_of_ble_eq_true rfl)) dX12_readWall_29 ⟨Nat.zero_le _, Nat.zero_le _⟩ (fun q6 S7 H locs hq G => ?_)
  obtain ⟨hq1, hq2⟩ := hq
  rw [hq2] at G
  refine lv_to hq1 ?_
  clear hq1 hq2 eS5
  refine lv_istore_n (lv' := [(2, .int r8), (0, .ref (ad 0)), (1, .int l1)]) hx hb dX12_readWall_32 rfl hl (by decide) rfl (fun ls hl => ?_)
  refine lv_aload_n hx hb dX12_readWall_33 rfl (lv_at hl 1 rfl) ?_
  refine lv_iconst (v := 1) hx hb dX12_readWall_34 (by decide) ?_
  refine lv_bipush (v := 100) hx hb dX12_readWall_35 (by decide) ?_
  obtain ⟨r12, S9, eS9, h⟩ := obind2_some h
  refine m_calli (As := [.int 1, .int 100]) (rest := []) E G hA hR hml (tr_number l D cI cJ cZ ad S5 1 100 eS9) (cwV 2 hts (gmV qM_130 qM_131 qM_132 qM_35 qM_122) rfl rfl rfl (by decide +kernel) ⟨Nat.le_of_ble_eq_true rfl, Nat.le_of_ble_eq_true rfl⟩) rfl hl.1 rfl (lv_room (Nat.le_of_ble_eq_true rfl)) dX12_readWall_37 ⟨Nat.zero_le _, Nat.zero_le _⟩ (fun q10 S11 H locs hq G => ?_)
  obtain ⟨hq1, hq2⟩ := hq
  rw [hq2] at G
  refine lv_to hq1 ?_
  clear hq1 hq2 eS9
  refine lv_istore_n (lv' := [(3, .int r12), (2, .int r8), (0, .ref (ad 0)), (1, .int l1)]) hx hb dX12_readWall_40 rfl hl (by decide) rfl (fun ls hl => ?_)
  refine lv_aload_n hx hb dX12_readWall_41 rfl (lv_at hl 2 rfl) ?_
  refine m_get E G 5 (v := .int (S9.1 5)) (by decide) (.tail _ qM_38) rfl dX12_readWall_42 rfl ?_
  refine lv_topi (fun v13 ev13 => ?_)
  have h := elet_at ev13 h
  clear ev13
  refine lv_if_le (tgt := 49) hx hb dX12_readWall_45 (by decide) (fun c14 => ?_) (fun c14 => ?_)
  · have h := oif_pos c14 h
    refine lv_aload_n hx hb dX12_readWall_49 rfl (lv_at hl 2 rfl) ?_
    refine m_get E G 11 (v := .ref (ad 11)) (by decide) (.tail _ qM_8) rfl dX12_readWall_50 rfl ?_
    refine lv_bipush (v := 72) hx hb dX12_readWall_53 (by decide) ?_
    refine lv_iload_n hx hb dX12_readWall_55 rfl (lv_at hl 3 rfl) ?_
    refine lv_iadd hx hb dX12_readWall_56 ?_
    refine lv_topi (fun v15 ev15 => ?_)
    have h := elet_at ev15 h
    clear ev15
    refine lv_iload_n hx hb dX12_readWall_57 rfl (lv_at hl 1 rfl) ?_
    obtain ⟨g16, h⟩ := oif_some h
    refine m_iast E G 11 3 (k := v15.toNatClampNeg) (v := r8) rfl (fun _ => rfl) (inb_k g16).1 (inb_k g16).2 (by decide) dX12_readWall_58 (fun H locs G => ?_)
    obtain ⟨S17, eS17, h⟩ := elet_some h
    rw [← eS17] at G
    clear eS17
    refine lv_aload_n hx hb dX12_readWall_59 rfl (lv_at hl 2 rfl) ?_
    refine m_get E G 11 (v := .ref (ad 11)) (by decide) (.tail _ qM_8) rfl dX12_readWall_60 rfl ?_
    refine lv_bipush (v := 74) hx hb dX12_readWall_63 (by decide) ?_
    refine lv_iload_n hx hb dX12_readWall_65 rfl (lv_at hl 3 rfl) ?_
    refine lv_iadd hx hb dX12_readWall_66 ?_
    refine lv_topi (fun v18 ev18 => ?_)
    have h := elet_at ev18 h
    clear ev18
    refine lv_iload_n hx hb dX12_readWall_67 rfl (lv_at hl 0 rfl) ?_
    obtain ⟨g19, h⟩ := oif_some h
    refine m_iast E G 11 3 (k := v18.toNatClampNeg) (v := r12) rfl (fun _ => rfl) (inb_k g19).1 (inb_k g19).2 (by decide) dX12_readWall_68 (fun H locs G => ?_)
    obtain ⟨S20, eS20, h⟩ := elet_some h
    rw [← eS20] at G
    clear eS20
    refine lv_aload_n hx hb dX12_readWall_69 rfl (lv_at hl 2 rfl) ?_
    refine m_get E G 11 (v := .ref (ad 11)) (by decide) (.tail _ qM_8) rfl dX12_readWall_70 rfl ?_
    refine lv_bipush (v := 71) hx hb dX12_readWall_73 (by decide) ?_
    refine lv_dup2_11 hx hb dX12_readWall_75 rfl rfl ?_
    refine m_iald E G 11 3 (n := 131) (k := 71) rfl rfl (by decide) (by decide) dX12_readWall_76 ?_
    refine lv_topi (fun v21 ev21 => ?_)
    have h := elet_at ev21 h
    clear ev21
    refine lv_iconst (v := 1) hx hb dX12_readWall_77 (by decide) ?_
    refine lv_iadd hx hb dX12_readWall_78 ?_
    refine lv_topi (fun v22 ev22 => ?_)
    have h := elet_at ev22 h
    clear ev22
    refine m_iast E G 11 3 (k := 71) (v := v22) rfl (fun _ => rfl) rfl (by decide) (by decide) dX12_readWall_79 (fun H locs G => ?_)
    obtain ⟨S23, eS23, h⟩ := elet_some h
    rw [← eS23] at G
    clear eS23
    rw [osome1 h] at G
    exact kr80 _ _ _ G
  · have h := oif_neg c14 h
    rw [osome1 h] at G
    exact kr48 _ _ _ G
def fr_readWall (S : MS)  : Option (MS) := elet (S.2.1 11 71) fun v2 => if v2 = 2 then (obind (fr_faults S 4) fun S4 => fr_readWall_b18 S4 v2) else (fr_readWall_b18 S v2)
set_option maxHeartbeats 4000000 in
set_option maxRecDepth 100000 in
theorem tr_readWall (l : Launch) (D : va_G) (cI cJ cZ : ClassId) (ad : Nat → Nat) (S : MS)  {S1 : MS} (h : fr_readWall S = some S1) : mCv l yX12_readWall (Cond.code yX12_readWall cX12_readWall 4 none :: wsM) 5 90 D cI cJ cZ ad S [] (fun S9 => S9 = S1) := by
  intro sz
  refine pro_in (cc := cX12_readWall) (maxL := 4) (ret := none) (by exact pn_RX12) rfl (by exact Nat.le_of_ble_eq_true rfl) (fun p e s m below meth c ls hx hb hr hts hown hlocks hml hv hl => ?_)
  obtain ⟨hsz, hP, hK, hD0, hR⟩ := hv
  subst hsz
  have hD := hD0.self (sz := s.heap.size)
  generalize hAe : va_A (MW cI cJ cZ ad S) s.heap.size = A at hD ⊢
  have hA : ∀ q : Nat, s.heap.size ≤ q → A q := fun q h => by rw [← hAe]; exact Or.inr h
  have G : mG D cI cJ cZ ad A s.heap s.heap [] S := ⟨hP, hD, va_S.rf⟩
  have E : mE p c cX12_readWall s m ([.ref (ad 0)] : List Value).toArray (Cond.code yX12_readWall cX12_readWall 4 none :: wsM) D cI cJ cZ := ⟨hx, hb, hts, hown, hK, fun w h => .tail _ (iM_x h)⟩
  have hl : lv_has ls 4 [(0, .ref (ad 0))] := hl
  unfold fr_readWall at h
  refine lv_aload_n hx hb dX12_readWall_0 rfl (lv_at hl 0 rfl) ?_
  refine m_get E G 11 (v := .ref (ad 11)) (by decide) (.tail _ qM_8) rfl dX12_readWall_1 rfl ?_
  refine lv_bipush (v := 71) hx hb dX12_readWall_4 (by decide) ?_
  refine m_iald E G 11 3 (n := 131) (k := 71) rfl rfl (by decide) (by decide) dX12_readWall_6 ?_
  refine lv_topi (fun v2 ev2 => ?_)
  have h := elet_at ev2 h
  clear ev2
  refine lv_istore_n (lv' := [(1, .int v2), (0, .ref (ad 0))]) hx hb dX12_readWall_7 rfl hl (by decide) rfl (fun ls hl => ?_)
  refine lv_iload_n hx hb dX12_readWall_8 rfl (lv_at hl 0 rfl) ?_
  refine lv_iconst (v := 2) hx hb dX12_readWall_9 (by decide) ?_
  refine lv_icmp_ne (tgt := 18) hx hb dX12_readWall_10 (by decide) (fun c3 => ?_) (fun c3 => ?_)
  · have h := oif_neg c3 h
    have hl := lv_sub hl [1, 0] rfl
    exact tr_readWall_b18 E hA hR hml (fun H locs ls G => W.vret hx hb hr (fun t ht hW => ⟨⟨S1, rfl, rfl, ⟨by rw [ht]; exact G.1, va_K.moved hW.alike hK, G.2.1⟩⟩, G.2.2.F ht⟩) G.2.2.2.2 dX12_readWall_48) (fun H locs ls G => W.vret hx hb hr (fun t ht hW => ⟨⟨S1, rfl, rfl, ⟨by rw [ht]; exact G.1, va_K.moved hW.alike hK, G.2.1⟩⟩, G.2.2.F ht⟩) G.2.2.2.2 dX12_readWall_80) _ _ _ _ _ h G hl
  · have h := oif_pos c3 h
    refine lv_aload_n hx hb dX12_readWall_13 rfl (lv_at hl 1 rfl) ?_
    refine lv_iconst (v := 4) hx hb dX12_readWall_14 (by decide) ?_
    obtain ⟨S4, eS4, h⟩ := obind_some h
    refine m_callv (As := [.int 4]) (rest := []) E G hA hR hml (tr_faults l D cI cJ cZ ad S 4 eS4) (cwV 1 hts (gmV qM_118 qM_119 qM_120 qM_35 qM_42) rfl rfl rfl (by decide +kernel) ⟨Nat.le_of_ble_eq_true rfl, Nat.le_of_ble_eq_true rfl⟩) rfl hl.1 rfl (lv_room (Nat.le_of_ble_eq_true rfl)) dX12_readWall_15 ⟨Nat.zero_le _, Nat.zero_le _⟩ (fun S6 H locs hq G => ?_)
    rw [hq] at G
    clear hq eS4
    have hl := lv_sub hl [1, 0] rfl
    exact tr_readWall_b18 E hA hR hml (fun H locs ls G => W.vret hx hb hr (fun t ht hW => ⟨⟨S1, rfl, rfl, ⟨by rw [ht]; exact G.1, va_K.moved hW.alike hK, G.2.1⟩⟩, G.2.2.F ht⟩) G.2.2.2.2 dX12_readWall_48) (fun H locs ls G => W.vret hx hb hr (fun t ht hW => ⟨⟨S1, rfl, rfl, ⟨by rw [ht]; exact G.1, va_K.moved hW.alike hK, G.2.1⟩⟩, G.2.2.F ht⟩) G.2.2.2.2 dX12_readWall_80) _ _ _ _ _ h G hl
def fr_readFade_b43  (S : MS)  : Option (MS) := some S
set_option maxHeartbeats 4000000 in
set_option maxRecDepth 100000 in
theorem tr_readFade_b43 {p : Program} {l : Launch} {e : Env} {s : State} {m : MethodId} {args : Array Value} {below : List Frame} {meth : Method} {c : Code} {Q : State → Prop} {D : va_G} {A : Nat → Prop} {H0 : Heap} {cI cJ cZ : ClassId} {ad : Nat → Nat} {S1 : MS} (E : mE p c cX12_readFade s m args (Cond.code yX12_readFade cX12_readFade 2 none :: wsM) D cI cJ cZ) (hA : ∀ q : Nat, H0.size ≤ q → A q) (hR : sR s) (hml : c.maxLocals = 2) (kr43 : ∀ (H : Heap) (locs : List Loc) (ls : Array Slot), mG D cI cJ cZ ad A H0 H locs S1 → W p l e { frames := 4, cells := 0, slots := 0, locals := 67 } s m args below meth c H locs 0 0 Q (F0 m 43 ls [])) : ∀ (S : MS) (H : Heap) (locs : List Loc) (ls : Array Slot), fr_readFade_b43 S = some S1 → mG D cI cJ cZ ad A H0 H locs S → lv_has ls 2 [] → W p l e { frames := 4, cells := 0, slots := 0, locals := 67 } s m args below meth c H locs 0 0 Q (F0 m 43 ls []) := by
  have hx := E.1
  have hb := E.2.1
  have hts := E.2.2.1
  have hown := E.2.2.2.1
  have hK := E.2.2.2.2.1
  intro S H locs ls h G hl
  unfold fr_readFade_b43 at h
  rw [osome1 h] at G
  exact kr43 _ _ _ G
def fr_readFade_b15  (S : MS)  : Option (MS) := obind (fr_nextToken S) fun S2 => obind2 (fr_number S2 1 999) fun r8 S5 => elet (S5.1 5) fun v9 => if v9 = 0 then (elet (mf S5 11 (upd (S5.2.1 11) 76 r8)) fun S11 => fr_readFade_b43 S11) else (fr_readFade_b43 S5)
set_option maxHeartbeats 4000000 in
set_option maxRecDepth 100000 in
theorem tr_readFade_b15 {p : Program} {l : Launch} {e : Env} {s : State} {m : MethodId} {args : Array Value} {below : List Frame} {meth : Method} {c : Code} {Q : State → Prop} {D : va_G} {A : Nat → Prop} {H0 : Heap} {cI cJ cZ : ClassId} {ad : Nat → Nat} {S1 : MS} (E : mE p c cX12_readFade s m args (Cond.code yX12_readFade cX12_readFade 2 none :: wsM) D cI cJ cZ) (hA : ∀ q : Nat, H0.size ≤ q → A q) (hR : sR s) (hml : c.maxLocals = 2) (kr43 : ∀ (H : Heap) (locs : List Loc) (ls : Array Slot), mG D cI cJ cZ ad A H0 H locs S1 → W p l e { frames := 4, cells := 0, slots := 0, locals := 67 } s m args below meth c H locs 0 0 Q (F0 m 43 ls [])) : ∀ (S : MS) (H : Heap) (locs : List Loc) (ls : Array Slot), fr_readFade_b15 S = some S1 → mG D cI cJ cZ ad A H0 H locs S → lv_has ls 2 [(0, .ref (ad 0))] → W p l e { frames := 4, cells := 0, slots := 0, locals := 67 } s m args below meth c H locs 0 0 Q (F0 m 15 ls []) := by
  have hx := E.1
  have hb := E.2.1
  have hts := E.2.2.1
  have hown := E.2.2.2.1
  have hK := E.2.2.2.2.1
  intro S H locs ls h G hl
  unfold fr_readFade_b15 at h
  refine lv_aload_n hx hb dX12_readFade_15 rfl (lv_at hl 0 rfl) ?_
  obtain ⟨S2, eS2, h⟩ := obind_some h
  refine m_callv (As := []) (rest := []) E G hA hR hml (tr_nextToken l D cI cJ cZ ad S eS2) (cwV 0 hts (gmV qM_111 qM_112 qM_113 qM_35 qM_45) rfl rfl rfl (by decide +kernel) ⟨Nat.le_of_ble_eq_true rfl, Nat.le_of_ble_eq_true rfl⟩) rfl hl.1 rfl (lv_room (Nat.le_of_ble_eq_true rfl)) dX12_readFade_16 ⟨Nat.zero_le _, Nat.zero_le _⟩ (fun S4 H locs hq G => ?_)
  rw [hq] at G
  clear hq eS2
  refine lv_aload_n hx hb dX12_readFade_19 rfl (lv_at hl 0 rfl) ?_
  refine lv_iconst (v := 1) hx hb dX12_readFade_20 (by decide) ?_
  refine lv_sipush (v := 999) hx hb dX12_readFade_21 (by decide) ?_
  obtain ⟨r8, S5, eS5, h⟩ := obind2_some h
  refine m_calli (As := [.int 1, .int 999]) (rest := []) E G hA hR hml (tr_number l D cI cJ cZ ad S2 1 999 eS5) (cwV 2 hts (gmV qM_130 qM_131 qM_132 qM_35 qM_122) rfl rfl rfl (by decide +kernel) ⟨Nat.le_of_ble_eq_true rfl, Nat.le_of_ble_eq_true rfl⟩) rfl hl.1 rfl (lv_room (Nat.le_of_ble_eq_true rfl)) dX12_readFade_24 ⟨Nat.zero_le _, Nat.zero_le _⟩ (fun q6 S7 H locs hq G => ?_)
  obtain ⟨hq1, hq2⟩ := hq
  rw [hq2] at G
  refine lv_to hq1 ?_
  clear hq1 hq2 eS5
  refine lv_istore_n (lv' := [(1, .int r8), (0, .ref (ad 0))]) hx hb dX12_readFade_27 rfl hl (by decide) rfl (fun ls hl => ?_)
  refine lv_aload_n hx hb dX12_readFade_28 rfl (lv_at hl 1 rfl) ?_
  refine m_get E G 5 (v := .int (S5.1 5)) (by decide) (.tail _ qM_38) rfl dX12_readFade_29 rfl ?_
  refine lv_topi (fun v9 ev9 => ?_)
  have h := elet_at ev9 h
  clear ev9
  refine lv_if_ne (tgt := 43) hx hb dX12_readFade_32 (by decide) (fun c10 => ?_) (fun c10 => ?_)
  · have h := oif_neg c10 h
    have hl := lv_sub hl [] rfl
    exact tr_readFade_b43 E hA hR hml kr43 _ _ _ _ h G hl
  · have h := oif_pos c10 h
    refine lv_aload_n hx hb dX12_readFade_35 rfl (lv_at hl 1 rfl) ?_
    refine m_get E G 11 (v := .ref (ad 11)) (by decide) (.tail _ qM_8) rfl dX12_readFade_36 rfl ?_
    refine lv_bipush (v := 76) hx hb dX12_readFade_39 (by decide) ?_
    refine lv_iload_n hx hb dX12_readFade_41 rfl (lv_at hl 0 rfl) ?_
    refine m_iast E G 11 3 (k := 76) (v := r8) rfl (fun _ => rfl) rfl (by decide) (by decide) dX12_readFade_42 (fun H locs G => ?_)
    obtain ⟨S11, eS11, h⟩ := elet_some h
    rw [← eS11] at G
    clear eS11
    have hl := lv_sub hl [] rfl
    exact tr_readFade_b43 E hA hR hml kr43 _ _ _ _ h G hl
def fr_readFade (S : MS)  : Option (MS) := elet (S.2.1 11 76) fun v2 => if v2 ≤ 0 then (fr_readFade_b15 S) else (obind (fr_faults S 3) fun S4 => fr_readFade_b15 S4)
set_option maxHeartbeats 4000000 in
set_option maxRecDepth 100000 in
theorem tr_readFade (l : Launch) (D : va_G) (cI cJ cZ : ClassId) (ad : Nat → Nat) (S : MS)  {S1 : MS} (h : fr_readFade S = some S1) : mCv l yX12_readFade (Cond.code yX12_readFade cX12_readFade 2 none :: wsM) 4 67 D cI cJ cZ ad S [] (fun S9 => S9 = S1) := by
  intro sz
  refine pro_in (cc := cX12_readFade) (maxL := 2) (ret := none) (by exact pn_RX12) rfl (by exact Nat.le_of_ble_eq_true rfl) (fun p e s m below meth c ls hx hb hr hts hown hlocks hml hv hl => ?_)
  obtain ⟨hsz, hP, hK, hD0, hR⟩ := hv
  subst hsz
  have hD := hD0.self (sz := s.heap.size)
  generalize hAe : va_A (MW cI cJ cZ ad S) s.heap.size = A at hD ⊢
  have hA : ∀ q : Nat, s.heap.size ≤ q → A q := fun q h => by rw [← hAe]; exact Or.inr h
  have G : mG D cI cJ cZ ad A s.heap s.heap [] S := ⟨hP, hD, va_S.rf⟩
  have E : mE p c cX12_readFade s m ([.ref (ad 0)] : List Value).toArray (Cond.code yX12_readFade cX12_readFade 2 none :: wsM) D cI cJ cZ := ⟨hx, hb, hts, hown, hK, fun w h => .tail _ (iM_x h)⟩
  have hl : lv_has ls 2 [(0, .ref (ad 0))] := hl
  unfold fr_readFade at h
  refine lv_aload_n hx hb dX12_readFade_0 rfl (lv_at hl 0 rfl) ?_
  refine m_get E G 11 (v := .ref (ad 11)) (by decide) (.tail _ qM_8) rfl dX12_readFade_1 rfl ?_
  refine lv_bipush (v := 76) hx hb dX12_readFade_4 (by decide) ?_
  refine m_iald E G 11 3 (n := 131) (k := 76) rfl rfl (by decide) (by decide) dX12_readFade_6 ?_
  refine lv_topi (fun v2 ev2 => ?_)
  have h := elet_at ev2 h
  clear ev2
  refine lv_if_le (tgt := 15) hx hb dX12_readFade_7 (by decide) (fun c3 => ?_) (fun c3 => ?_)
  · have h := oif_pos c3 h
    have hl := lv_sub hl [0] rfl
    exact tr_readFade_b15 E hA hR hml (fun H locs ls G => W.vret hx hb hr (fun t ht hW => ⟨⟨S1, rfl, rfl, ⟨by rw [ht]; exact G.1, va_K.moved hW.alike hK, G.2.1⟩⟩, G.2.2.F ht⟩) G.2.2.2.2 dX12_readFade_43) _ _ _ _ h G hl
  · have h := oif_neg c3 h
    refine lv_aload_n hx hb dX12_readFade_10 rfl (lv_at hl 0 rfl) ?_
    refine lv_iconst (v := 3) hx hb dX12_readFade_11 (by decide) ?_
    obtain ⟨S4, eS4, h⟩ := obind_some h
    refine m_callv (As := [.int 3]) (rest := []) E G hA hR hml (tr_faults l D cI cJ cZ ad S 3 eS4) (cwV 1 hts (gmV qM_118 qM_119 qM_120 qM_35 qM_42) rfl rfl rfl (by decide +kernel) ⟨Nat.le_of_ble_eq_true rfl, Nat.le_of_ble_eq_true rfl⟩) rfl hl.1 rfl (lv_room (Nat.le_of_ble_eq_true rfl)) dX12_readFade_12 ⟨Nat.zero_le _, Nat.zero_le _⟩ (fun S6 H locs hq G => ?_)
    rw [hq] at G
    clear hq eS4
    have hl := lv_sub hl [0] rfl
    exact tr_readFade_b15 E hA hR hml (fun H locs ls G => W.vret hx hb hr (fun t ht hW => ⟨⟨S1, rfl, rfl, ⟨by rw [ht]; exact G.1, va_K.moved hW.alike hK, G.2.1⟩⟩, G.2.2.F ht⟩) G.2.2.2.2 dX12_readFade_43) _ _ _ _ h G hl
def fr_readFilter_b65 (k19 : MS → Option (MS)) (S : MS)  : Option (MS) := obind2 (fr_signed S (-9) 9) fun r5 S2 => elet (S2.1 5) fun v6 => if v6 ≤ 0 then (elet (S2.2.1 11 77) fun v8 => elet (78 + v8) fun v9 => oif (inb v9 131 = true) <| elet (mf S2 11 (upd (S2.2.1 11) v9.toNatClampNeg r5)) fun S11 => elet (S11.2.1 11 77) fun v12 => elet (v12 + 1) fun v13 => elet (mf S11 11 (upd (S11.2.1 11) 77 v13)) fun S14 => elet (S14.1 7) fun v15 => if v15 = 3 then (k19 S14) else (obind2 (fr_isSignHere S14 45) fun r20 S17 => if r20 = 0 then (some S17) else (k19 S17))) else (some S2)
set_option maxHeartbeats 4000000 in
set_option maxRecDepth 100000 in
theorem tr_readFilter_b65 {p : Program} {l : Launch} {e : Env} {s : State} {m : MethodId} {args : Array Value} {below : List Frame} {meth : Method} {c : Code} {Q : State → Prop} {D : va_G} {A : Nat → Prop} {H0 : Heap} {cI cJ cZ : ClassId} {ad : Nat → Nat} {S1 : MS} (E : mE p c cX12_readFilter s m args (Cond.code yX12_readFilter cX12_readFilter 3 none :: wsM) D cI cJ cZ) (hA : ∀ q : Nat, H0.size ≤ q → A q) (hR : sR s) (hml : c.maxLocals = 3) (kr81 : ∀ (H : Heap) (locs : List Loc) (ls : Array Slot), mG D cI cJ cZ ad A H0 H locs S1 → W p l e { frames := 5, cells := 0, slots := 0, locals := 90 } s m args below meth c H locs 0 0 Q (F0 m 81 ls [])) (kr126 : ∀ (H : Heap) (locs : List Loc) (ls : Array Slot), mG D cI cJ cZ ad A H0 H locs S1 → W p l e { frames := 5, cells := 0, slots := 0, locals := 90 } s m args below meth c H locs 0 0 Q (F0 m 126 ls [])) {k19 : MS → Option (MS)} (hk19 : ∀ (S : MS) (H : Heap) (locs : List Loc) (ls : Array Slot), k19 S = some S1 → mG D cI cJ cZ ad A H0 H locs S → lv_has ls 3 [(0, .ref (ad 0))] → W p l e { frames := 5, cells := 0, slots := 0, locals := 90 } s m args below meth c H locs 0 0 Q (F0 m 19 ls [])) : ∀ (S : MS) (H : Heap) (locs : List Loc) (ls : Array Slot), fr_readFilter_b65 k19 S = some S1 → mG D cI cJ cZ ad A H0 H locs S → lv_has ls 3 [(0, .ref (ad 0))] → W p l e { frames := 5, cells := 0, slots := 0, locals := 90 } s m args below meth c H locs 0 0 Q (F0 m 65 ls []) := by
  have hx := E.1
  have hb := E.2.1
  have hts := E.2.2.1
  have hown := E.2.2.2.1
  have hK := E.2.2.2.2.1
  intro S H locs ls h G hl
  unfold fr_readFilter_b65 at h
  refine lv_aload_n hx hb dX12_readFilter_65 rfl (lv_at hl 0 rfl) ?_
  refine lv_bipush (v := (-9)) hx hb dX12_readFilter_66 (by decide) ?_
  refine lv_bipush (v := 9) hx hb dX12_readFilter_68 (by decide) ?_
  obtain ⟨r5, S2, eS2, h⟩ := obind2_some h
  refine m_calli (As := [.int (-9), .int 9]) (rest := []) E G hA hR hml (tr_signed l D cI cJ cZ ad S (-9) 9 eS2) (cwV 2 hts (gmV qM_142 qM_143 qM_144 qM_35 qM_133) rfl rfl rfl (by decide +kernel) ⟨Nat.le_of_ble_eq_true rfl, Nat.le_of_ble_eq_true rfl⟩) rfl hl.1 rfl (lv_room (Nat.le_of_ble_eq_true rfl)) dX12_readFilter_70 ⟨Nat.zero_le _, Nat.zero_le _⟩ (fun q3 S4 H locs hq G => ?_)
  obtain ⟨hq1, hq2⟩ := hq
  rw [hq2] at G
  refine lv_to hq1 ?_
  clear hq1 hq2 eS2
  refine lv_istore_n (lv' := [(2, .int r5), (0, .ref (ad 0))]) hx hb dX12_readFilter_73 rfl hl (by decide) rfl (fun ls hl => ?_)
  refine lv_aload_n hx hb dX12_readFilter_74 rfl (lv_at hl 1 rfl) ?_
  refine m_get E G 5 (v := .int (S2.1 5)) (by decide) (.tail _ qM_38) rfl dX12_readFilter_75 rfl ?_
  refine lv_topi (fun v6 ev6 => ?_)
  have h := elet_at ev6 h
  clear ev6
  refine lv_if_le (tgt := 82) hx hb dX12_readFilter_78 (by decide) (fun c7 => ?_) (fun c7 => ?_)
  · have h := oif_pos c7 h
    refine lv_aload_n hx hb dX12_readFilter_82 rfl (lv_at hl 1 rfl) ?_
    refine m_get E G 11 (v := .ref (ad 11)) (by decide) (.tail _ qM_8) rfl dX12_readFilter_83 rfl ?_
    refine lv_bipush (v := 78) hx hb dX12_readFilter_86 (by decide) ?_
    refine lv_aload_n hx hb dX12_readFilter_88 rfl (lv_at hl 1 rfl) ?_
    refine m_get E G 11 (v := .ref (ad 11)) (by decide) (.tail _ qM_8) rfl dX12_readFilter_89 rfl ?_
    refine lv_bipush (v := 77) hx hb dX12_readFilter_92 (by decide) ?_
    refine m_iald E G 11 3 (n := 131) (k := 77) rfl rfl (by decide) (by decide) dX12_readFilter_94 ?_
    refine lv_topi (fun v8 ev8 => ?_)
    have h := elet_at ev8 h
    clear ev8
    refine lv_iadd hx hb dX12_readFilter_95 ?_
    refine lv_topi (fun v9 ev9 => ?_)
    have h := elet_at ev9 h
    clear ev9
    refine lv_iload_n hx hb dX12_readFilter_96 rfl (lv_at hl 0 rfl) ?_
    obtain ⟨g10, h⟩ := oif_some h
    refine m_iast E G 11 3 (k := v9.toNatClampNeg) (v := r5) rfl (fun _ => rfl) (inb_k g10).1 (inb_k g10).2 (by decide) dX12_readFilter_97 (fun H locs G => ?_)
    obtain ⟨S11, eS11, h⟩ := elet_some h
    rw [← eS11] at G
    clear eS11
    refine lv_aload_n hx hb dX12_readFilter_98 rfl (lv_at hl 1 rfl) ?_
    refine m_get E G 11 (v := .ref (ad 11)) (by decide) (.tail _ qM_8) rfl dX12_readFilter_99 rfl ?_
    refine lv_bipush (v := 77) hx hb dX12_readFilter_102 (by decide) ?_
    refine lv_dup2_11 hx hb dX12_readFilter_104 rfl rfl ?_
    refine m_iald E G 11 3 (n := 131) (k := 77) rfl rfl (by decide) (by decide) dX12_readFilter_105 ?_
    refine lv_topi (fun v12 ev12 => ?_)
    have h := elet_at ev12 h
    clear ev12
    refine lv_iconst (v := 1) hx hb dX12_readFilter_106 (by decide) ?_
    refine lv_iadd hx hb dX12_readFilter_107 ?_
    refine lv_topi (fun v13 ev13 => ?_)
    have h := elet_at ev13 h
    clear ev13
    refine m_iast E G 11 3 (k := 77) (v := v13) rfl (fun _ => rfl) rfl (by decide) (by decide) dX12_readFilter_108 (fun H locs G => ?_)
    obtain ⟨S14, eS14, h⟩ := elet_some h
    rw [← eS14] at G
    clear eS14
    refine lv_aload_n hx hb dX12_readFilter_109 rfl (lv_at hl 1 rfl) ?_
    refine m_get E G 7 (v := .int (S14.1 7)) (by decide) (.tail _ qM_47) rfl dX12_readFilter_110 rfl ?_
    refine lv_topi (fun v15 ev15 => ?_)
    have h := elet_at ev15 h
    clear ev15
    refine lv_iconst (v := 3) hx hb dX12_readFilter_113 (by decide) ?_
    refine lv_icmp_eq (tgt := 19) hx hb dX12_readFilter_114 (by decide) (fun c16 => ?_) (fun c16 => ?_)
    · have h := oif_pos c16 h
      have hl := lv_sub hl [1] rfl
      exact hk19 _ _ _ _ h G hl
    · have h := oif_neg c16 h
      refine lv_aload_n hx hb dX12_readFilter_117 rfl (lv_at hl 1 rfl) ?_
      refine lv_bipush (v := 45) hx hb dX12_readFilter_118 (by decide) ?_
      obtain ⟨r20, S17, eS17, h⟩ := obind2_some h
      refine m_calli (As := [.int 45]) (rest := []) E G hA hR hml (tr_isSignHere l D cI cJ cZ ad S14 45 eS17) (cwV 1 hts (gmV qM_134 qM_135 qM_136 qM_35 qM_56) rfl rfl rfl (by decide +kernel) ⟨Nat.le_of_ble_eq_true rfl, Nat.le_of_ble_eq_true rfl⟩) rfl hl.1 rfl (lv_room (Nat.le_of_ble_eq_true rfl)) dX12_readFilter_120 ⟨Nat.zero_le _, Nat.zero_le _⟩ (fun q18 S19 H locs hq G => ?_)
      obtain ⟨hq1, hq2⟩ := hq
      rw [hq2] at G
      refine lv_to hq1 ?_
      clear hq1 hq2 eS17
      refine lv_if_ne (tgt := 19) hx hb dX12_readFilter_123 (by decide) (fun c21 => ?_) (fun c21 => ?_)
      · have h := oif_neg c21 h
        have hl := lv_sub hl [1] rfl
        exact hk19 _ _ _ _ h G hl
      · have h := oif_pos c21 h
        rw [osome1 h] at G
        exact kr126 _ _ _ G
  · have h := oif_neg c7 h
    rw [osome1 h] at G
    exact kr81 _ _ _ G
def fr_readFilter_b56 (k19 : MS → Option (MS)) (S : MS) (l1 : Int32) : Option (MS) := if l1 = 0 then (fr_readFilter_b65 k19 S) else (obind (fr_faults S 4) fun S3 => fr_readFilter_b65 k19 S3)
set_option maxHeartbeats 4000000 in
set_option maxRecDepth 100000 in
theorem tr_readFilter_b56 {p : Program} {l : Launch} {e : Env} {s : State} {m : MethodId} {args : Array Value} {below : List Frame} {meth : Method} {c : Code} {Q : State → Prop} {D : va_G} {A : Nat → Prop} {H0 : Heap} {cI cJ cZ : ClassId} {ad : Nat → Nat} {S1 : MS} (E : mE p c cX12_readFilter s m args (Cond.code yX12_readFilter cX12_readFilter 3 none :: wsM) D cI cJ cZ) (hA : ∀ q : Nat, H0.size ≤ q → A q) (hR : sR s) (hml : c.maxLocals = 3) (kr81 : ∀ (H : Heap) (locs : List Loc) (ls : Array Slot), mG D cI cJ cZ ad A H0 H locs S1 → W p l e { frames := 5, cells := 0, slots := 0, locals := 90 } s m args below meth c H locs 0 0 Q (F0 m 81 ls [])) (kr126 : ∀ (H : Heap) (locs : List Loc) (ls : Array Slot), mG D cI cJ cZ ad A H0 H locs S1 → W p l e { frames := 5, cells := 0, slots := 0, locals := 90 } s m args below meth c H locs 0 0 Q (F0 m 126 ls [])) {k19 : MS → Option (MS)} (hk19 : ∀ (S : MS) (H : Heap) (locs : List Loc) (ls : Array Slot), k19 S = some S1 → mG D cI cJ cZ ad A H0 H locs S → lv_has ls 3 [(0, .ref (ad 0))] → W p l e { frames := 5, cells := 0, slots := 0, locals := 90 } s m args below meth c H locs 0 0 Q (F0 m 19 ls [])) : ∀ (S : MS) (H : Heap) (locs : List Loc) (ls : Array Slot) (l1 : Int32), fr_readFilter_b56 k19 S l1 = some S1 → mG D cI cJ cZ ad A H0 H locs S → lv_has ls 3 [(0, .ref (ad 0)), (1, .int l1)] → W p l e { frames := 5, cells := 0, slots := 0, locals := 90 } s m args below meth c H locs 0 0 Q (F0 m 56 ls []) := by
  have hx := E.1
  have hb := E.2.1
  have hts := E.2.2.1
  have hown := E.2.2.2.1
  have hK := E.2.2.2.2.1
  intro S H locs ls l1 h G hl
  unfold fr_readFilter_b56 at h
  refine lv_iload_n hx hb dX12_readFilter_56 rfl (lv_at hl 1 rfl) ?_
  refine lv_if_eq (tgt := 65) hx hb dX12_readFilter_57 (by decide) (fun c2 => ?_) (fun c2 => ?_)
  · have h := oif_pos c2 h
    have hl := lv_sub hl [0] rfl
    exact tr_readFilter_b65 E hA hR hml kr81 kr126 hk19 _ _ _ _ h G hl
  · have h := oif_neg c2 h
    refine lv_aload_n hx hb dX12_readFilter_60 rfl (lv_at hl 0 rfl) ?_
    refine lv_iconst (v := 4) hx hb dX12_readFilter_61 (by decide) ?_
    obtain ⟨S3, eS3, h⟩ := obind_some h
    refine m_callv (As := [.int 4]) (rest := []) E G hA hR hml (tr_faults l D cI cJ cZ ad S 4 eS3) (cwV 1 hts (gmV qM_118 qM_119 qM_120 qM_35 qM_42) rfl rfl rfl (by decide +kernel) ⟨Nat.le_of_ble_eq_true rfl, Nat.le_of_ble_eq_true rfl⟩) rfl hl.1 rfl (lv_room (Nat.le_of_ble_eq_true rfl)) dX12_readFilter_62 ⟨Nat.zero_le _, Nat.zero_le _⟩ (fun S5 H locs hq G => ?_)
    rw [hq] at G
    clear hq eS3
    have hl := lv_sub hl [0] rfl
    exact tr_readFilter_b65 E hA hR hml kr81 kr126 hk19 _ _ _ _ h G hl
def fr_readFilter_b35 (k19 : MS → Option (MS)) (S : MS) (s0 : Int32) : Option (MS) := if s0 = 0 then (fr_readFilter_b56 k19 S s0) else (elet (S.1 7) fun v3 => if v3 = 3 then (obind2 (fr_look S 0 9) fun r8 S5 => fr_readFilter_b56 k19 S5 s0) else (fr_readFilter_b56 k19 S s0))
set_option maxHeartbeats 4000000 in
set_option maxRecDepth 100000 in
theorem tr_readFilter_b35 {p : Program} {l : Launch} {e : Env} {s : State} {m : MethodId} {args : Array Value} {below : List Frame} {meth : Method} {c : Code} {Q : State → Prop} {D : va_G} {A : Nat → Prop} {H0 : Heap} {cI cJ cZ : ClassId} {ad : Nat → Nat} {S1 : MS} (E : mE p c cX12_readFilter s m args (Cond.code yX12_readFilter cX12_readFilter 3 none :: wsM) D cI cJ cZ) (hA : ∀ q : Nat, H0.size ≤ q → A q) (hR : sR s) (hml : c.maxLocals = 3) (kr81 : ∀ (H : Heap) (locs : List Loc) (ls : Array Slot), mG D cI cJ cZ ad A H0 H locs S1 → W p l e { frames := 5, cells := 0, slots := 0, locals := 90 } s m args below meth c H locs 0 0 Q (F0 m 81 ls [])) (kr126 : ∀ (H : Heap) (locs : List Loc) (ls : Array Slot), mG D cI cJ cZ ad A H0 H locs S1 → W p l e { frames := 5, cells := 0, slots := 0, locals := 90 } s m args below meth c H locs 0 0 Q (F0 m 126 ls [])) {k19 : MS → Option (MS)} (hk19 : ∀ (S : MS) (H : Heap) (locs : List Loc) (ls : Array Slot), k19 S = some S1 → mG D cI cJ cZ ad A H0 H locs S → lv_has ls 3 [(0, .ref (ad 0))] → W p l e { frames := 5, cells := 0, slots := 0, locals := 90 } s m args below meth c H locs 0 0 Q (F0 m 19 ls [])) : ∀ (S : MS) (H : Heap) (locs : List Loc) (ls : Array Slot) (s0 : Int32), fr_readFilter_b35 k19 S s0 = some S1 → mG D cI cJ cZ ad A H0 H locs S → lv_has ls 3 [(0, .ref (ad 0))] → W p l e { frames := 5, cells := 0, slots := 0, locals := 90 } s m args below meth c H locs 0 0 Q (F0 m 35 ls [.int s0]) := by
  have hx := E.1
  have hb := E.2.1
  have hts := E.2.2.1
  have hown := E.2.2.2.1
  have hK := E.2.2.2.2.1
  intro S H locs ls s0 h G hl
  unfold fr_readFilter_b35 at h
  refine lv_istore_n (lv' := [(1, .int s0), (0, .ref (ad 0))]) hx hb dX12_readFilter_35 rfl hl (by decide) rfl (fun ls hl => ?_)
  refine lv_iload_n hx hb dX12_readFilter_36 rfl (lv_at hl 0 rfl) ?_
  refine lv_if_eq (tgt := 56) hx hb dX12_readFilter_37 (by decide) (fun c2 => ?_) (fun c2 => ?_)
  · have h := oif_pos c2 h
    have hl := lv_sub hl [1, 0] rfl
    exact tr_readFilter_b56 E hA hR hml kr81 kr126 hk19 _ _ _ _ _ h G hl
  · have h := oif_neg c2 h
    refine lv_aload_n hx hb dX12_readFilter_40 rfl (lv_at hl 1 rfl) ?_
    refine m_get E G 7 (v := .int (S.1 7)) (by decide) (.tail _ qM_47) rfl dX12_readFilter_41 rfl ?_
    refine lv_topi (fun v3 ev3 => ?_)
    have h := elet_at ev3 h
    clear ev3
    refine lv_iconst (v := 3) hx hb dX12_readFilter_44 (by decide) ?_
    refine lv_icmp_ne (tgt := 56) hx hb dX12_readFilter_45 (by decide) (fun c4 => ?_) (fun c4 => ?_)
    · have h := oif_neg c4 h
      have hl := lv_sub hl [1, 0] rfl
      exact tr_readFilter_b56 E hA hR hml kr81 kr126 hk19 _ _ _ _ _ h G hl
    · have h := oif_pos c4 h
      refine lv_aload_n hx hb dX12_readFilter_48 rfl (lv_at hl 1 rfl) ?_
      refine lv_iconst (v := 0) hx hb dX12_readFilter_49 (by decide) ?_
      refine lv_bipush (v := 9) hx hb dX12_readFilter_50 (by decide) ?_
      obtain ⟨r8, S5, eS5, h⟩ := obind2_some h
      refine m_calli (As := [.int 0, .int 9]) (rest := []) E G hA hR hml (tr_look l D cI cJ cZ ad S 0 9 eS5) (cwV 2 hts (gmV qM_123 qM_124 qM_125 qM_35 qM_121) rfl rfl rfl (by decide +kernel) ⟨Nat.le_of_ble_eq_true rfl, Nat.le_of_ble_eq_true rfl⟩) rfl hl.1 rfl (lv_room (Nat.le_of_ble_eq_true rfl)) dX12_readFilter_52 ⟨Nat.zero_le _, Nat.zero_le _⟩ (fun q6 S7 H locs hq G => ?_)
      obtain ⟨hq1, hq2⟩ := hq
      rw [hq2] at G
      refine lv_to hq1 ?_
      clear hq1 hq2 eS5
      refine lv_pop hx hb dX12_readFilter_55 rfl ?_
      have hl := lv_sub hl [1, 0] rfl
      exact tr_readFilter_b56 E hA hR hml kr81 kr126 hk19 _ _ _ _ _ h G hl
def fr_readFilter_b19  : Nat → MS → Option (MS)
  | 0, _ => none
  | n + 1, S => elet (S.2.1 11 77) fun v2 => if v2 = 5 then (fr_readFilter_b35 (fr_readFilter_b19 n) S 1) else (fr_readFilter_b35 (fr_readFilter_b19 n) S 0)
set_option maxHeartbeats 4000000 in
set_option maxRecDepth 100000 in
theorem tr_readFilter_b19 {p : Program} {l : Launch} {e : Env} {s : State} {m : MethodId} {args : Array Value} {below : List Frame} {meth : Method} {c : Code} {Q : State → Prop} {D : va_G} {A : Nat → Prop} {H0 : Heap} {cI cJ cZ : ClassId} {ad : Nat → Nat} {S1 : MS} (E : mE p c cX12_readFilter s m args (Cond.code yX12_readFilter cX12_readFilter 3 none :: wsM) D cI cJ cZ) (hA : ∀ q : Nat, H0.size ≤ q → A q) (hR : sR s) (hml : c.maxLocals = 3) (kr81 : ∀ (H : Heap) (locs : List Loc) (ls : Array Slot), mG D cI cJ cZ ad A H0 H locs S1 → W p l e { frames := 5, cells := 0, slots := 0, locals := 90 } s m args below meth c H locs 0 0 Q (F0 m 81 ls [])) (kr126 : ∀ (H : Heap) (locs : List Loc) (ls : Array Slot), mG D cI cJ cZ ad A H0 H locs S1 → W p l e { frames := 5, cells := 0, slots := 0, locals := 90 } s m args below meth c H locs 0 0 Q (F0 m 126 ls [])) : ∀ n : Nat, ∀ (S : MS) (H : Heap) (locs : List Loc) (ls : Array Slot), fr_readFilter_b19 n S = some S1 → mG D cI cJ cZ ad A H0 H locs S → lv_has ls 3 [(0, .ref (ad 0))] → W p l e { frames := 5, cells := 0, slots := 0, locals := 90 } s m args below meth c H locs 0 0 Q (F0 m 19 ls []) := by
  have hx := E.1
  have hb := E.2.1
  have hts := E.2.2.1
  have hown := E.2.2.2.1
  have hK := E.2.2.2.2.1
  intro n
  induction n with
  | zero =>
    intro S H locs ls h
    have h : (none : Option (MS)) = some S1 := h
    cases h
  | succ n ih =>
    intro S H locs ls h G hl
    unfold fr_readFilter_b19 at h
    refine lv_aload_n hx hb dX12_readFilter_19 rfl (lv_at hl 0 rfl) ?_
    refine m_get E G 11 (v := .ref (ad 11)) (by decide) (.tail _ qM_8) rfl dX12_readFilter_20 rfl ?_
    refine lv_bipush (v := 77) hx hb dX12_readFilter_23 (by decide) ?_
    refine m_iald E G 11 3 (n := 131) (k := 77) rfl rfl (by decide) (by decide) dX12_readFilter_25 ?_
    refine lv_topi (fun v2 ev2 => ?_)
    have h := elet_at ev2 h
    clear ev2
    refine lv_iconst (v := 5) hx hb dX12_readFilter_26 (by decide) ?_
    refine lv_icmp_ne (tgt := 34) hx hb dX12_readFilter_27 (by decide) (fun c3 => ?_) (fun c3 => ?_)
    · have h := oif_neg c3 h
      refine lv_iconst (v := 0) hx hb dX12_readFilter_34 (by decide) ?_
      have hl := lv_sub hl [0] rfl
      exact tr_readFilter_b35 E hA hR hml kr81 kr126 ih _ _ _ _ _ h G hl
    · have h := oif_pos c3 h
      refine lv_iconst (v := 1) hx hb dX12_readFilter_30 (by decide) ?_
      refine lv_goto (tgt := 35) hx hb dX12_readFilter_31 (by decide) ?_
      have hl := lv_sub hl [0] rfl
      exact tr_readFilter_b35 E hA hR hml kr81 kr126 ih _ _ _ _ _ h G hl
def fr_readFilter_b15  (S : MS)  : Option (MS) := obind (fr_nextToken S) fun S2 => fr_readFilter_b19 16384 S2
set_option maxHeartbeats 4000000 in
set_option maxRecDepth 100000 in
theorem tr_readFilter_b15 {p : Program} {l : Launch} {e : Env} {s : State} {m : MethodId} {args : Array Value} {below : List Frame} {meth : Method} {c : Code} {Q : State → Prop} {D : va_G} {A : Nat → Prop} {H0 : Heap} {cI cJ cZ : ClassId} {ad : Nat → Nat} {S1 : MS} (E : mE p c cX12_readFilter s m args (Cond.code yX12_readFilter cX12_readFilter 3 none :: wsM) D cI cJ cZ) (hA : ∀ q : Nat, H0.size ≤ q → A q) (hR : sR s) (hml : c.maxLocals = 3) (kr81 : ∀ (H : Heap) (locs : List Loc) (ls : Array Slot), mG D cI cJ cZ ad A H0 H locs S1 → W p l e { frames := 5, cells := 0, slots := 0, locals := 90 } s m args below meth c H locs 0 0 Q (F0 m 81 ls [])) (kr126 : ∀ (H : Heap) (locs : List Loc) (ls : Array Slot), mG D cI cJ cZ ad A H0 H locs S1 → W p l e { frames := 5, cells := 0, slots := 0, locals := 90 } s m args below meth c H locs 0 0 Q (F0 m 126 ls [])) : ∀ (S : MS) (H : Heap) (locs : List Loc) (ls : Array Slot), fr_readFilter_b15 S = some S1 → mG D cI cJ cZ ad A H0 H locs S → lv_has ls 3 [(0, .ref (ad 0))] → W p l e { frames := 5, cells := 0, slots := 0, locals := 90 } s m args below meth c H locs 0 0 Q (F0 m 15 ls []) := by
  have hx := E.1
  have hb := E.2.1
  have hts := E.2.2.1
  have hown := E.2.2.2.1
  have hK := E.2.2.2.2.1
  intro S H locs ls h G hl
  unfold fr_readFilter_b15 at h
  refine lv_aload_n hx hb dX12_readFilter_15 rfl (lv_at hl 0 rfl) ?_
  obtain ⟨S2, eS2, h⟩ := obind_some h
  refine m_callv (As := []) (rest := []) E G hA hR hml (tr_nextToken l D cI cJ cZ ad S eS2) (cwV 0 hts (gmV qM_111 qM_112 qM_113 qM_35 qM_45) rfl rfl rfl (by decide +kernel) ⟨Nat.le_of_ble_eq_true rfl, Nat.le_of_ble_eq_true rfl⟩) rfl hl.1 rfl (lv_room (Nat.le_of_ble_eq_true rfl)) dX12_readFilter_16 ⟨Nat.zero_le _, Nat.zero_le _⟩ (fun S4 H locs hq G => ?_)
  rw [hq] at G
  clear hq eS2
  have hl := lv_sub hl [0] rfl
  exact tr_readFilter_b19 E hA hR hml kr81 kr126 _ _ _ _ _ h G hl
def fr_readFilter (S : MS)  : Option (MS) := elet (S.2.1 11 77) fun v2 => if v2 ≤ 0 then (fr_readFilter_b15 S) else (obind (fr_faults S 3) fun S4 => fr_readFilter_b15 S4)
set_option maxHeartbeats 4000000 in
set_option maxRecDepth 100000 in
theorem tr_readFilter (l : Launch) (D : va_G) (cI cJ cZ : ClassId) (ad : Nat → Nat) (S : MS)  {S1 : MS} (h : fr_readFilter S = some S1) : mCv l yX12_readFilter (Cond.code yX12_readFilter cX12_readFilter 3 none :: wsM) 5 90 D cI cJ cZ ad S [] (fun S9 => S9 = S1) := by
  intro sz
  refine pro_in (cc := cX12_readFilter) (maxL := 3) (ret := none) (by exact pn_RX12) rfl (by exact Nat.le_of_ble_eq_true rfl) (fun p e s m below meth c ls hx hb hr hts hown hlocks hml hv hl => ?_)
  obtain ⟨hsz, hP, hK, hD0, hR⟩ := hv
  subst hsz
  have hD := hD0.self (sz := s.heap.size)
  generalize hAe : va_A (MW cI cJ cZ ad S) s.heap.size = A at hD ⊢
  have hA : ∀ q : Nat, s.heap.size ≤ q → A q := fun q h => by rw [← hAe]; exact Or.inr h
  have G : mG D cI cJ cZ ad A s.heap s.heap [] S := ⟨hP, hD, va_S.rf⟩
  have E : mE p c cX12_readFilter s m ([.ref (ad 0)] : List Value).toArray (Cond.code yX12_readFilter cX12_readFilter 3 none :: wsM) D cI cJ cZ := ⟨hx, hb, hts, hown, hK, fun w h => .tail _ (iM_x h)⟩
  have hl : lv_has ls 3 [(0, .ref (ad 0))] := hl
  unfold fr_readFilter at h
  refine lv_aload_n hx hb dX12_readFilter_0 rfl (lv_at hl 0 rfl) ?_
  refine m_get E G 11 (v := .ref (ad 11)) (by decide) (.tail _ qM_8) rfl dX12_readFilter_1 rfl ?_
  refine lv_bipush (v := 77) hx hb dX12_readFilter_4 (by decide) ?_
  refine m_iald E G 11 3 (n := 131) (k := 77) rfl rfl (by decide) (by decide) dX12_readFilter_6 ?_
  refine lv_topi (fun v2 ev2 => ?_)
  have h := elet_at ev2 h
  clear ev2
  refine lv_if_le (tgt := 15) hx hb dX12_readFilter_7 (by decide) (fun c3 => ?_) (fun c3 => ?_)
  · have h := oif_pos c3 h
    have hl := lv_sub hl [0] rfl
    exact tr_readFilter_b15 E hA hR hml (fun H locs ls G => W.vret hx hb hr (fun t ht hW => ⟨⟨S1, rfl, rfl, ⟨by rw [ht]; exact G.1, va_K.moved hW.alike hK, G.2.1⟩⟩, G.2.2.F ht⟩) G.2.2.2.2 dX12_readFilter_81) (fun H locs ls G => W.vret hx hb hr (fun t ht hW => ⟨⟨S1, rfl, rfl, ⟨by rw [ht]; exact G.1, va_K.moved hW.alike hK, G.2.1⟩⟩, G.2.2.F ht⟩) G.2.2.2.2 dX12_readFilter_126) _ _ _ _ h G hl
  · have h := oif_neg c3 h
    refine lv_aload_n hx hb dX12_readFilter_10 rfl (lv_at hl 0 rfl) ?_
    refine lv_iconst (v := 3) hx hb dX12_readFilter_11 (by decide) ?_
    obtain ⟨S4, eS4, h⟩ := obind_some h
    refine m_callv (As := [.int 3]) (rest := []) E G hA hR hml (tr_faults l D cI cJ cZ ad S 3 eS4) (cwV 1 hts (gmV qM_118 qM_119 qM_120 qM_35 qM_42) rfl rfl rfl (by decide +kernel) ⟨Nat.le_of_ble_eq_true rfl, Nat.le_of_ble_eq_true rfl⟩) rfl hl.1 rfl (lv_room (Nat.le_of_ble_eq_true rfl)) dX12_readFilter_12 ⟨Nat.zero_le _, Nat.zero_le _⟩ (fun S6 H locs hq G => ?_)
    rw [hq] at G
    clear hq eS4
    have hl := lv_sub hl [0] rfl
    exact tr_readFilter_b15 E hA hR hml (fun H locs ls G => W.vret hx hb hr (fun t ht hW => ⟨⟨S1, rfl, rfl, ⟨by rw [ht]; exact G.1, va_K.moved hW.alike hK, G.2.1⟩⟩, G.2.2.F ht⟩) G.2.2.2.2 dX12_readFilter_81) (fun H locs ls G => W.vret hx hb hr (fun t ht hW => ⟨⟨S1, rfl, rfl, ⟨by rw [ht]; exact G.1, va_K.moved hW.alike hK, G.2.1⟩⟩, G.2.2.F ht⟩) G.2.2.2.2 dX12_readFilter_126) _ _ _ _ h G hl
def fr_readClock_b71  (S : MS)  : Option (MS) := some S
set_option maxHeartbeats 4000000 in
set_option maxRecDepth 100000 in
theorem tr_readClock_b71 {p : Program} {l : Launch} {e : Env} {s : State} {m : MethodId} {args : Array Value} {below : List Frame} {meth : Method} {c : Code} {Q : State → Prop} {D : va_G} {A : Nat → Prop} {H0 : Heap} {cI cJ cZ : ClassId} {ad : Nat → Nat} {S1 : MS} (E : mE p c cX12_readClock s m args (Cond.code yX12_readClock cX12_readClock 3 none :: wsM) D cI cJ cZ) (hA : ∀ q : Nat, H0.size ≤ q → A q) (hR : sR s) (hml : c.maxLocals = 3) (kr71 : ∀ (H : Heap) (locs : List Loc) (ls : Array Slot), mG D cI cJ cZ ad A H0 H locs S1 → W p l e { frames := 4, cells := 0, slots := 0, locals := 67 } s m args below meth c H locs 0 0 Q (F0 m 71 ls [])) : ∀ (S : MS) (H : Heap) (locs : List Loc) (ls : Array Slot), fr_readClock_b71 S = some S1 → mG D cI cJ cZ ad A H0 H locs S → lv_has ls 3 [] → W p l e { frames := 4, cells := 0, slots := 0, locals := 67 } s m args below meth c H locs 0 0 Q (F0 m 71 ls []) := by
  have hx := E.1
  have hb := E.2.1
  have hts := E.2.2.1
  have hown := E.2.2.2.1
  have hK := E.2.2.2.2.1
  intro S H locs ls h G hl
  unfold fr_readClock_b71 at h
  rw [osome1 h] at G
  exact kr71 _ _ _ G
def fr_readClock_b42  (S : MS) (l1 : Int32) : Option (MS) := obind (fr_nextToken S) fun S2 => obind2 (fr_number S2 1 31) fun r8 S5 => elet (S5.1 5) fun v9 => if v9 = 0 then (elet (83 + l1) fun v11 => oif (inb v11 131 = true) <| elet (mf S5 11 (upd (S5.2.1 11) v11.toNatClampNeg r8)) fun S13 => fr_readClock_b71 S13) else (fr_readClock_b71 S5)
set_option maxHeartbeats 4000000 in
set_option maxRecDepth 100000 in
theorem tr_readClock_b42 {p : Program} {l : Launch} {e : Env} {s : State} {m : MethodId} {args : Array Value} {below : List Frame} {meth : Method} {c : Code} {Q : State → Prop} {D : va_G} {A : Nat → Prop} {H0 : Heap} {cI cJ cZ : ClassId} {ad : Nat → Nat} {S1 : MS} (E : mE p c cX12_readClock s m args (Cond.code yX12_readClock cX12_readClock 3 none :: wsM) D cI cJ cZ) (hA : ∀ q : Nat, H0.size ≤ q → A q) (hR : sR s) (hml : c.maxLocals = 3) (kr71 : ∀ (H : Heap) (locs : List Loc) (ls : Array Slot), mG D cI cJ cZ ad A H0 H locs S1 → W p l e { frames := 4, cells := 0, slots := 0, locals := 67 } s m args below meth c H locs 0 0 Q (F0 m 71 ls [])) : ∀ (S : MS) (H : Heap) (locs : List Loc) (ls : Array Slot) (l1 : Int32), fr_readClock_b42 S l1 = some S1 → mG D cI cJ cZ ad A H0 H locs S → lv_has ls 3 [(0, .ref (ad 0)), (1, .int l1)] → W p l e { frames := 4, cells := 0, slots := 0, locals := 67 } s m args below meth c H locs 0 0 Q (F0 m 42 ls []) := by
  have hx := E.1
  have hb := E.2.1
  have hts := E.2.2.1
  have hown := E.2.2.2.1
  have hK := E.2.2.2.2.1
  intro S H locs ls l1 h G hl
  unfold fr_readClock_b42 at h
  refine lv_aload_n hx hb dX12_readClock_42 rfl (lv_at hl 0 rfl) ?_
  obtain ⟨S2, eS2, h⟩ := obind_some h
  refine m_callv (As := []) (rest := []) E G hA hR hml (tr_nextToken l D cI cJ cZ ad S eS2) (cwV 0 hts (gmV qM_111 qM_112 qM_113 qM_35 qM_45) rfl rfl rfl (by decide +kernel) ⟨Nat.le_of_ble_eq_true rfl, Nat.le_of_ble_eq_true rfl⟩) rfl hl.1 rfl (lv_room (Nat.le_of_ble_eq_true rfl)) dX12_readClock_43 ⟨Nat.zero_le _, Nat.zero_le _⟩ (fun S4 H locs hq G => ?_)
  rw [hq] at G
  clear hq eS2
  refine lv_aload_n hx hb dX12_readClock_46 rfl (lv_at hl 0 rfl) ?_
  refine lv_iconst (v := 1) hx hb dX12_readClock_47 (by decide) ?_
  refine lv_bipush (v := 31) hx hb dX12_readClock_48 (by decide) ?_
  obtain ⟨r8, S5, eS5, h⟩ := obind2_some h
  refine m_calli (As := [.int 1, .int 31]) (rest := []) E G hA hR hml (tr_number l D cI cJ cZ ad S2 1 31 eS5) (cwV 2 hts (gmV qM_130 qM_131 qM_132 qM_35 qM_122) rfl rfl rfl (by decide +kernel) ⟨Nat.le_of_ble_eq_true rfl, Nat.le_of_ble_eq_true rfl⟩) rfl hl.1 rfl (lv_room (Nat.le_of_ble_eq_true rfl)) dX12_readClock_50 ⟨Nat.zero_le _, Nat.zero_le _⟩ (fun q6 S7 H locs hq G => ?_)
  obtain ⟨hq1, hq2⟩ := hq
  rw [hq2] at G
  refine lv_to hq1 ?_
  clear hq1 hq2 eS5
  refine lv_istore_n (lv' := [(2, .int r8), (0, .ref (ad 0)), (1, .int l1)]) hx hb dX12_readClock_53 rfl hl (by decide) rfl (fun ls hl => ?_)
  refine lv_aload_n hx hb dX12_readClock_54 rfl (lv_at hl 1 rfl) ?_
  refine m_get E G 5 (v := .int (S5.1 5)) (by decide) (.tail _ qM_38) rfl dX12_readClock_55 rfl ?_
  refine lv_topi (fun v9 ev9 => ?_)
  have h := elet_at ev9 h
  clear ev9
  refine lv_if_ne (tgt := 71) hx hb dX12_readClock_58 (by decide) (fun c10 => ?_) (fun c10 => ?_)
  · have h := oif_neg c10 h
    have hl := lv_sub hl [] rfl
    exact tr_readClock_b71 E hA hR hml kr71 _ _ _ _ h G hl
  · have h := oif_pos c10 h
    refine lv_aload_n hx hb dX12_readClock_61 rfl (lv_at hl 1 rfl) ?_
    refine m_get E G 11 (v := .ref (ad 11)) (by decide) (.tail _ qM_8) rfl dX12_readClock_62 rfl ?_
    refine lv_bipush (v := 83) hx hb dX12_readClock_65 (by decide) ?_
    refine lv_iload_n hx hb dX12_readClock_67 rfl (lv_at hl 2 rfl) ?_
    refine lv_iadd hx hb dX12_readClock_68 ?_
    refine lv_topi (fun v11 ev11 => ?_)
    have h := elet_at ev11 h
    clear ev11
    refine lv_iload_n hx hb dX12_readClock_69 rfl (lv_at hl 0 rfl) ?_
    obtain ⟨g12, h⟩ := oif_some h
    refine m_iast E G 11 3 (k := v11.toNatClampNeg) (v := r8) rfl (fun _ => rfl) (inb_k g12).1 (inb_k g12).2 (by decide) dX12_readClock_70 (fun H locs G => ?_)
    obtain ⟨S13, eS13, h⟩ := elet_some h
    rw [← eS13] at G
    clear eS13
    have hl := lv_sub hl [] rfl
    exact tr_readClock_b71 E hA hR hml kr71 _ _ _ _ h G hl
def fr_readClock (S : MS)  : Option (MS) := obind (fr_nextToken S) fun S2 => elet (S2.2.1 11 4) fun v5 => elet (v5 - 1) fun v6 => obind2 (fr_look S2 0 v6) fun r10 S7 => elet (S7.1 5) fun v11 => if v11 = 0 then (elet (83 + r10) fun v13 => oif (inb v13 131 = true) <| elet (S7.2.1 11 v13.toNatClampNeg) fun v15 => if v15 ≤ 0 then (fr_readClock_b42 S7 r10) else (obind (fr_faults S7 3) fun S17 => fr_readClock_b42 S17 r10)) else (fr_readClock_b42 S7 r10)
set_option maxHeartbeats 4000000 in
set_option maxRecDepth 100000 in
theorem tr_readClock (l : Launch) (D : va_G) (cI cJ cZ : ClassId) (ad : Nat → Nat) (S : MS)  {S1 : MS} (h : fr_readClock S = some S1) : mCv l yX12_readClock (Cond.code yX12_readClock cX12_readClock 3 none :: wsM) 4 67 D cI cJ cZ ad S [] (fun S9 => S9 = S1) := by
  intro sz
  refine pro_in (cc := cX12_readClock) (maxL := 3) (ret := none) (by exact pn_RX12) rfl (by exact Nat.le_of_ble_eq_true rfl) (fun p e s m below meth c ls hx hb hr hts hown hlocks hml hv hl => ?_)
  obtain ⟨hsz, hP, hK, hD0, hR⟩ := hv
  subst hsz
  have hD := hD0.self (sz := s.heap.size)
  generalize hAe : va_A (MW cI cJ cZ ad S) s.heap.size = A at hD ⊢
  have hA : ∀ q : Nat, s.heap.size ≤ q → A q := fun q h => by rw [← hAe]; exact Or.inr h
  have G : mG D cI cJ cZ ad A s.heap s.heap [] S := ⟨hP, hD, va_S.rf⟩
  have E : mE p c cX12_readClock s m ([.ref (ad 0)] : List Value).toArray (Cond.code yX12_readClock cX12_readClock 3 none :: wsM) D cI cJ cZ := ⟨hx, hb, hts, hown, hK, fun w h => .tail _ (iM_x h)⟩
  have hl : lv_has ls 3 [(0, .ref (ad 0))] := hl
  unfold fr_readClock at h
  refine lv_aload_n hx hb dX12_readClock_0 rfl (lv_at hl 0 rfl) ?_
  obtain ⟨S2, eS2, h⟩ := obind_some h
  refine m_callv (As := []) (rest := []) E G hA hR hml (tr_nextToken l D cI cJ cZ ad S eS2) (cwV 0 hts (gmV qM_111 qM_112 qM_113 qM_35 qM_45) rfl rfl rfl (by decide +kernel) ⟨Nat.le_of_ble_eq_true rfl, Nat.le_of_ble_eq_true rfl⟩) rfl hl.1 rfl (lv_room (Nat.le_of_ble_eq_true rfl)) dX12_readClock_1 ⟨Nat.zero_le _, Nat.zero_le _⟩ (fun S4 H locs hq G => ?_)
  rw [hq] at G
  clear hq eS2
  refine lv_aload_n hx hb dX12_readClock_4 rfl (lv_at hl 0 rfl) ?_
  refine lv_iconst (v := 0) hx hb dX12_readClock_5 (by decide) ?_
  refine lv_aload_n hx hb dX12_readClock_6 rfl (lv_at hl 0 rfl) ?_
  refine m_get E G 11 (v := .ref (ad 11)) (by decide) (.tail _ qM_8) rfl dX12_readClock_7 rfl ?_
  refine lv_iconst (v := 4) hx hb dX12_readClock_10 (by decide) ?_
  refine m_iald E G 11 3 (n := 131) (k := 4) rfl rfl (by decide) (by decide) dX12_readClock_11 ?_
  refine lv_topi (fun v5 ev5 => ?_)
  have h := elet_at ev5 h
  clear ev5
  refine lv_iconst (v := 1) hx hb dX12_readClock_12 (by decide) ?_
  refine lv_isub hx hb dX12_readClock_13 ?_
  refine lv_topi (fun v6 ev6 => ?_)
  have h := elet_at ev6 h
  clear ev6
  obtain ⟨r10, S7, eS7, h⟩ := obind2_some h
  refine m_calli (As := [.int 0, .int v6]) (rest := []) E G hA hR hml (tr_look l D cI cJ cZ ad S2 0 v6 eS7) (cwV 2 hts (gmV qM_123 qM_124 qM_125 qM_35 qM_121) rfl rfl rfl (by decide +kernel) ⟨Nat.le_of_ble_eq_true rfl, Nat.le_of_ble_eq_true rfl⟩) rfl hl.1 rfl (lv_room (Nat.le_of_ble_eq_true rfl)) dX12_readClock_14 ⟨Nat.zero_le _, Nat.zero_le _⟩ (fun q8 S9 H locs hq G => ?_)
  obtain ⟨hq1, hq2⟩ := hq
  rw [hq2] at G
  refine lv_to hq1 ?_
  clear hq1 hq2 eS7
  refine lv_istore_n (lv' := [(1, .int r10), (0, .ref (ad 0))]) hx hb dX12_readClock_17 rfl hl (by decide) rfl (fun ls hl => ?_)
  refine lv_aload_n hx hb dX12_readClock_18 rfl (lv_at hl 1 rfl) ?_
  refine m_get E G 5 (v := .int (S7.1 5)) (by decide) (.tail _ qM_38) rfl dX12_readClock_19 rfl ?_
  refine lv_topi (fun v11 ev11 => ?_)
  have h := elet_at ev11 h
  clear ev11
  refine lv_if_ne (tgt := 42) hx hb dX12_readClock_22 (by decide) (fun c12 => ?_) (fun c12 => ?_)
  · have h := oif_neg c12 h
    have hl := lv_sub hl [1, 0] rfl
    exact tr_readClock_b42 E hA hR hml (fun H locs ls G => W.vret hx hb hr (fun t ht hW => ⟨⟨S1, rfl, rfl, ⟨by rw [ht]; exact G.1, va_K.moved hW.alike hK, G.2.1⟩⟩, G.2.2.F ht⟩) G.2.2.2.2 dX12_readClock_71) _ _ _ _ _ h G hl
  · have h := oif_pos c12 h
    refine lv_aload_n hx hb dX12_readClock_25 rfl (lv_at hl 1 rfl) ?_
    refine m_get E G 11 (v := .ref (ad 11)) (by decide) (.tail _ qM_8) rfl dX12_readClock_26 rfl ?_
    refine lv_bipush (v := 83) hx hb dX12_readClock_29 (by decide) ?_
    refine lv_iload_n hx hb dX12_readClock_31 rfl (lv_at hl 0 rfl) ?_
    refine lv_iadd hx hb dX12_readClock_32 ?_
    refine lv_topi (fun v13 ev13 => ?_)
    have h := elet_at ev13 h
    clear ev13
    obtain ⟨g14, h⟩ := oif_some h
    refine m_iald E G 11 3 (n := 131) (k := v13.toNatClampNeg) rfl (inb_k g14).1 (inb_k g14).2 (by decide) dX12_readClock_33 ?_
    refine lv_topi (fun v15 ev15 => ?_)
    have h := elet_at ev15 h
    clear ev15
    refine lv_if_le (tgt := 42) hx hb dX12_readClock_34 (by decide) (fun c16 => ?_) (fun c16 => ?_)
    · have h := oif_pos c16 h
      have hl := lv_sub hl [1, 0] rfl
      exact tr_readClock_b42 E hA hR hml (fun H locs ls G => W.vret hx hb hr (fun t ht hW => ⟨⟨S1, rfl, rfl, ⟨by rw [ht]; exact G.1, va_K.moved hW.alike hK, G.2.1⟩⟩, G.2.2.F ht⟩) G.2.2.2.2 dX12_readClock_71) _ _ _ _ _ h G hl
    · have h := oif_neg c16 h
      refine lv_aload_n hx hb dX12_readClock_37 rfl (lv_at hl 1 rfl) ?_
      refine lv_iconst (v := 3) hx hb dX12_readClock_38 (by decide) ?_
      obtain ⟨S17, eS17, h⟩ := obind_some h
      refine m_callv (As := [.int 3]) (rest := []) E G hA hR hml (tr_faults l D cI cJ cZ ad S7 3 eS17) (cwV 1 hts (gmV qM_118 qM_119 qM_120 qM_35 qM_42) rfl rfl rfl (by decide +kernel) ⟨Nat.le_of_ble_eq_true rfl, Nat.le_of_ble_eq_true rfl⟩) rfl hl.1 rfl (lv_room (Nat.le_of_ble_eq_true rfl)) dX12_readClock_39 ⟨Nat.zero_le _, Nat.zero_le _⟩ (fun S19 H locs hq G => ?_)
      rw [hq] at G
      clear hq eS17
      have hl := lv_sub hl [1, 0] rfl
      exact tr_readClock_b42 E hA hR hml (fun H locs ls G => W.vret hx hb hr (fun t ht hW => ⟨⟨S1, rfl, rfl, ⟨by rw [ht]; exact G.1, va_K.moved hW.alike hK, G.2.1⟩⟩, G.2.2.F ht⟩) G.2.2.2.2 dX12_readClock_71) _ _ _ _ _ h G hl
def fr_readShade_b44 (k19 : MS → Option (MS)) (S : MS) (l1 : Int32) : Option (MS) := obind (fr_nextToken S) fun S2 => elet (S2.1 5) fun v5 => if v5 ≤ 0 then (elet (S2.2.1 11 118) fun v7 => elet (119 + v7) fun v8 => oif (inb v8 131 = true) <| elet (mf S2 11 (upd (S2.2.1 11) v8.toNatClampNeg l1)) fun S10 => elet (S10.2.1 11 118) fun v11 => elet (v11 + 1) fun v12 => elet (mf S10 11 (upd (S10.2.1 11) 118 v12)) fun S13 => elet (S13.1 7) fun v14 => if v14 = 3 then (k19 S13) else (some S13)) else (some S2)
set_option maxHeartbeats 4000000 in
set_option maxRecDepth 100000 in
theorem tr_readShade_b44 {p : Program} {l : Launch} {e : Env} {s : State} {m : MethodId} {args : Array Value} {below : List Frame} {meth : Method} {c : Code} {Q : State → Prop} {D : va_G} {A : Nat → Prop} {H0 : Heap} {cI cJ cZ : ClassId} {ad : Nat → Nat} {S1 : MS} (E : mE p c cX12_readShade s m args (Cond.code yX12_readShade cX12_readShade 2 none :: wsM) D cI cJ cZ) (hA : ∀ q : Nat, H0.size ≤ q → A q) (hR : sR s) (hml : c.maxLocals = 2) (kr55 : ∀ (H : Heap) (locs : List Loc) (ls : Array Slot), mG D cI cJ cZ ad A H0 H locs S1 → W p l e { frames := 3, cells := 0, slots := 0, locals := 44 } s m args below meth c H locs 0 0 Q (F0 m 55 ls [])) (kr91 : ∀ (H : Heap) (locs : List Loc) (ls : Array Slot), mG D cI cJ cZ ad A H0 H locs S1 → W p l e { frames := 3, cells := 0, slots := 0, locals := 44 } s m args below meth c H locs 0 0 Q (F0 m 91 ls [])) {k19 : MS → Option (MS)} (hk19 : ∀ (S : MS) (H : Heap) (locs : List Loc) (ls : Array Slot), k19 S = some S1 → mG D cI cJ cZ ad A H0 H locs S → lv_has ls 2 [(0, .ref (ad 0))] → W p l e { frames := 3, cells := 0, slots := 0, locals := 44 } s m args below meth c H locs 0 0 Q (F0 m 19 ls [])) : ∀ (S : MS) (H : Heap) (locs : List Loc) (ls : Array Slot) (l1 : Int32), fr_readShade_b44 k19 S l1 = some S1 → mG D cI cJ cZ ad A H0 H locs S → lv_has ls 2 [(0, .ref (ad 0)), (1, .int l1)] → W p l e { frames := 3, cells := 0, slots := 0, locals := 44 } s m args below meth c H locs 0 0 Q (F0 m 44 ls []) := by
  have hx := E.1
  have hb := E.2.1
  have hts := E.2.2.1
  have hown := E.2.2.2.1
  have hK := E.2.2.2.2.1
  intro S H locs ls l1 h G hl
  unfold fr_readShade_b44 at h
  refine lv_aload_n hx hb dX12_readShade_44 rfl (lv_at hl 0 rfl) ?_
  obtain ⟨S2, eS2, h⟩ := obind_some h
  refine m_callv (As := []) (rest := []) E G hA hR hml (tr_nextToken l D cI cJ cZ ad S eS2) (cwV 0 hts (gmV qM_111 qM_112 qM_113 qM_35 qM_45) rfl rfl rfl (by decide +kernel) ⟨Nat.le_of_ble_eq_true rfl, Nat.le_of_ble_eq_true rfl⟩) rfl hl.1 rfl (lv_room (Nat.le_of_ble_eq_true rfl)) dX12_readShade_45 ⟨Nat.zero_le _, Nat.zero_le _⟩ (fun S4 H locs hq G => ?_)
  rw [hq] at G
  clear hq eS2
  refine lv_aload_n hx hb dX12_readShade_48 rfl (lv_at hl 0 rfl) ?_
  refine m_get E G 5 (v := .int (S2.1 5)) (by decide) (.tail _ qM_38) rfl dX12_readShade_49 rfl ?_
  refine lv_topi (fun v5 ev5 => ?_)
  have h := elet_at ev5 h
  clear ev5
  refine lv_if_le (tgt := 56) hx hb dX12_readShade_52 (by decide) (fun c6 => ?_) (fun c6 => ?_)
  · have h := oif_pos c6 h
    refine lv_aload_n hx hb dX12_readShade_56 rfl (lv_at hl 0 rfl) ?_
    refine m_get E G 11 (v := .ref (ad 11)) (by decide) (.tail _ qM_8) rfl dX12_readShade_57 rfl ?_
    refine lv_bipush (v := 119) hx hb dX12_readShade_60 (by decide) ?_
    refine lv_aload_n hx hb dX12_readShade_62 rfl (lv_at hl 0 rfl) ?_
    refine m_get E G 11 (v := .ref (ad 11)) (by decide) (.tail _ qM_8) rfl dX12_readShade_63 rfl ?_
    refine lv_bipush (v := 118) hx hb dX12_readShade_66 (by decide) ?_
    refine m_iald E G 11 3 (n := 131) (k := 118) rfl rfl (by decide) (by decide) dX12_readShade_68 ?_
    refine lv_topi (fun v7 ev7 => ?_)
    have h := elet_at ev7 h
    clear ev7
    refine lv_iadd hx hb dX12_readShade_69 ?_
    refine lv_topi (fun v8 ev8 => ?_)
    have h := elet_at ev8 h
    clear ev8
    refine lv_iload_n hx hb dX12_readShade_70 rfl (lv_at hl 1 rfl) ?_
    obtain ⟨g9, h⟩ := oif_some h
    refine m_iast E G 11 3 (k := v8.toNatClampNeg) (v := l1) rfl (fun _ => rfl) (inb_k g9).1 (inb_k g9).2 (by decide) dX12_readShade_71 (fun H locs G => ?_)
    obtain ⟨S10, eS10, h⟩ := elet_some h
    rw [← eS10] at G
    clear eS10
    refine lv_aload_n hx hb dX12_readShade_72 rfl (lv_at hl 0 rfl) ?_
    refine m_get E G 11 (v := .ref (ad 11)) (by decide) (.tail _ qM_8) rfl dX12_readShade_73 rfl ?_
    refine lv_bipush (v := 118) hx hb dX12_readShade_76 (by decide) ?_
    refine lv_dup2_11 hx hb dX12_readShade_78 rfl rfl ?_
    refine m_iald E G 11 3 (n := 131) (k := 118) rfl rfl (by decide) (by decide) dX12_readShade_79 ?_
    refine lv_topi (fun v11 ev11 => ?_)
    have h := elet_at ev11 h
    clear ev11
    refine lv_iconst (v := 1) hx hb dX12_readShade_80 (by decide) ?_
    refine lv_iadd hx hb dX12_readShade_81 ?_
    refine lv_topi (fun v12 ev12 => ?_)
    have h := elet_at ev12 h
    clear ev12
    refine m_iast E G 11 3 (k := 118) (v := v12) rfl (fun _ => rfl) rfl (by decide) (by decide) dX12_readShade_82 (fun H locs G => ?_)
    obtain ⟨S13, eS13, h⟩ := elet_some h
    rw [← eS13] at G
    clear eS13
    refine lv_aload_n hx hb dX12_readShade_83 rfl (lv_at hl 0 rfl) ?_
    refine m_get E G 7 (v := .int (S13.1 7)) (by decide) (.tail _ qM_47) rfl dX12_readShade_84 rfl ?_
    refine lv_topi (fun v14 ev14 => ?_)
    have h := elet_at ev14 h
    clear ev14
    refine lv_iconst (v := 3) hx hb dX12_readShade_87 (by decide) ?_
    refine lv_icmp_eq (tgt := 19) hx hb dX12_readShade_88 (by decide) (fun c15 => ?_) (fun c15 => ?_)
    · have h := oif_pos c15 h
      have hl := lv_sub hl [0] rfl
      exact hk19 _ _ _ _ h G hl
    · have h := oif_neg c15 h
      rw [osome1 h] at G
      exact kr91 _ _ _ G
  · have h := oif_neg c6 h
    rw [osome1 h] at G
    exact kr55 _ _ _ G
def fr_readShade_b19  : Nat → MS → Option (MS)
  | 0, _ => none
  | n + 1, S => obind2 (fr_look S 0 9) fun r5 S2 => elet (S2.2.1 11 118) fun v6 => if v6 = 12 then (obind (fr_faults S2 4) fun S8 => fr_readShade_b44 (fr_readShade_b19 n) S8 r5) else (fr_readShade_b44 (fr_readShade_b19 n) S2 r5)
set_option maxHeartbeats 4000000 in
set_option maxRecDepth 100000 in
theorem tr_readShade_b19 {p : Program} {l : Launch} {e : Env} {s : State} {m : MethodId} {args : Array Value} {below : List Frame} {meth : Method} {c : Code} {Q : State → Prop} {D : va_G} {A : Nat → Prop} {H0 : Heap} {cI cJ cZ : ClassId} {ad : Nat → Nat} {S1 : MS} (E : mE p c cX12_readShade s m args (Cond.code yX12_readShade cX12_readShade 2 none :: wsM) D cI cJ cZ) (hA : ∀ q : Nat, H0.size ≤ q → A q) (hR : sR s) (hml : c.maxLocals = 2) (kr55 : ∀ (H : Heap) (locs : List Loc) (ls : Array Slot), mG D cI cJ cZ ad A H0 H locs S1 → W p l e { frames := 3, cells := 0, slots := 0, locals := 44 } s m args below meth c H locs 0 0 Q (F0 m 55 ls [])) (kr91 : ∀ (H : Heap) (locs : List Loc) (ls : Array Slot), mG D cI cJ cZ ad A H0 H locs S1 → W p l e { frames := 3, cells := 0, slots := 0, locals := 44 } s m args below meth c H locs 0 0 Q (F0 m 91 ls [])) : ∀ n : Nat, ∀ (S : MS) (H : Heap) (locs : List Loc) (ls : Array Slot), fr_readShade_b19 n S = some S1 → mG D cI cJ cZ ad A H0 H locs S → lv_has ls 2 [(0, .ref (ad 0))] → W p l e { frames := 3, cells := 0, slots := 0, locals := 44 } s m args below meth c H locs 0 0 Q (F0 m 19 ls []) := by
  have hx := E.1
  have hb := E.2.1
  have hts := E.2.2.1
  have hown := E.2.2.2.1
  have hK := E.2.2.2.2.1
  intro n
  induction n with
  | zero =>
    intro S H locs ls h
    have h : (none : Option (MS)) = some S1 := h
    cases h
  | succ n ih =>
    intro S H locs ls h G hl
    unfold fr_readShade_b19 at h
    refine lv_aload_n hx hb dX12_readShade_19 rfl (lv_at hl 0 rfl) ?_
    refine lv_iconst (v := 0) hx hb dX12_readShade_20 (by decide) ?_
    refine lv_bipush (v := 9) hx hb dX12_readShade_21 (by decide) ?_
    obtain ⟨r5, S2, eS2, h⟩ := obind2_some h
    refine m_calli (As := [.int 0, .int 9]) (rest := []) E G hA hR hml (tr_look l D cI cJ cZ ad S 0 9 eS2) (cwV 2 hts (gmV qM_123 qM_124 qM_125 qM_35 qM_121) rfl rfl rfl (by decide +kernel) ⟨Nat.le_of_ble_eq_true rfl, Nat.le_of_ble_eq_true rfl⟩) rfl hl.1 rfl (lv_room (Nat.le_of_ble_eq_true rfl)) dX12_readShade_23 ⟨Nat.zero_le _, Nat.zero_le _⟩ (fun q3 S4 H locs hq G => ?_)
    obtain ⟨hq1, hq2⟩ := hq
    rw [hq2] at G
    refine lv_to hq1 ?_
    clear hq1 hq2 eS2
    refine lv_istore_n (lv' := [(1, .int r5), (0, .ref (ad 0))]) hx hb dX12_readShade_26 rfl hl (by decide) rfl (fun ls hl => ?_)
    refine lv_aload_n hx hb dX12_readShade_27 rfl (lv_at hl 1 rfl) ?_
    refine m_get E G 11 (v := .ref (ad 11)) (by decide) (.tail _ qM_8) rfl dX12_readShade_28 rfl ?_
    refine lv_bipush (v := 118) hx hb dX12_readShade_31 (by decide) ?_
    refine m_iald E G 11 3 (n := 131) (k := 118) rfl rfl (by decide) (by decide) dX12_readShade_33 ?_
    refine lv_topi (fun v6 ev6 => ?_)
    have h := elet_at ev6 h
    clear ev6
    refine lv_bipush (v := 12) hx hb dX12_readShade_34 (by decide) ?_
    refine lv_icmp_ne (tgt := 44) hx hb dX12_readShade_36 (by decide) (fun c7 => ?_) (fun c7 => ?_)
    · have h := oif_neg c7 h
      have hl := lv_sub hl [1, 0] rfl
      exact tr_readShade_b44 E hA hR hml kr55 kr91 ih _ _ _ _ _ h G hl
    · have h := oif_pos c7 h
      refine lv_aload_n hx hb dX12_readShade_39 rfl (lv_at hl 1 rfl) ?_
      refine lv_iconst (v := 4) hx hb dX12_readShade_40 (by decide) ?_
      obtain ⟨S8, eS8, h⟩ := obind_some h
      refine m_callv (As := [.int 4]) (rest := []) E G hA hR hml (tr_faults l D cI cJ cZ ad S2 4 eS8) (cwV 1 hts (gmV qM_118 qM_119 qM_120 qM_35 qM_42) rfl rfl rfl (by decide +kernel) ⟨Nat.le_of_ble_eq_true rfl, Nat.le_of_ble_eq_true rfl⟩) rfl hl.1 rfl (lv_room (Nat.le_of_ble_eq_true rfl)) dX12_readShade_41 ⟨Nat.zero_le _, Nat.zero_le _⟩ (fun S10 H locs hq G => ?_)
      rw [hq] at G
      clear hq eS8
      have hl := lv_sub hl [1, 0] rfl
      exact tr_readShade_b44 E hA hR hml kr55 kr91 ih _ _ _ _ _ h G hl
def fr_readShade_b15  (S : MS)  : Option (MS) := obind (fr_nextToken S) fun S2 => fr_readShade_b19 16384 S2
set_option maxHeartbeats 4000000 in
set_option maxRecDepth 100000 in
theorem tr_readShade_b15 {p : Program} {l : Launch} {e : Env} {s : State} {m : MethodId} {args : Array Value} {below : List Frame} {meth : Method} {c : Code} {Q : State → Prop} {D : va_G} {A : Nat → Prop} {H0 : Heap} {cI cJ cZ : ClassId} {ad : Nat → Nat} {S1 : MS} (E : mE p c cX12_readShade s m args (Cond.code yX12_readShade cX12_readShade 2 none :: wsM) D cI cJ cZ) (hA : ∀ q : Nat, H0.size ≤ q → A q) (hR : sR s) (hml : c.maxLocals = 2) (kr55 : ∀ (H : Heap) (locs : List Loc) (ls : Array Slot), mG D cI cJ cZ ad A H0 H locs S1 → W p l e { frames := 3, cells := 0, slots := 0, locals := 44 } s m args below meth c H locs 0 0 Q (F0 m 55 ls [])) (kr91 : ∀ (H : Heap) (locs : List Loc) (ls : Array Slot), mG D cI cJ cZ ad A H0 H locs S1 → W p l e { frames := 3, cells := 0, slots := 0, locals := 44 } s m args below meth c H locs 0 0 Q (F0 m 91 ls [])) : ∀ (S : MS) (H : Heap) (locs : List Loc) (ls : Array Slot), fr_readShade_b15 S = some S1 → mG D cI cJ cZ ad A H0 H locs S → lv_has ls 2 [(0, .ref (ad 0))] → W p l e { frames := 3, cells := 0, slots := 0, locals := 44 } s m args below meth c H locs 0 0 Q (F0 m 15 ls []) := by
  have hx := E.1
  have hb := E.2.1
  have hts := E.2.2.1
  have hown := E.2.2.2.1
  have hK := E.2.2.2.2.1
  intro S H locs ls h G hl
  unfold fr_readShade_b15 at h
  refine lv_aload_n hx hb dX12_readShade_15 rfl (lv_at hl 0 rfl) ?_
  obtain ⟨S2, eS2, h⟩ := obind_some h
  refine m_callv (As := []) (rest := []) E G hA hR hml (tr_nextToken l D cI cJ cZ ad S eS2) (cwV 0 hts (gmV qM_111 qM_112 qM_113 qM_35 qM_45) rfl rfl rfl (by decide +kernel) ⟨Nat.le_of_ble_eq_true rfl, Nat.le_of_ble_eq_true rfl⟩) rfl hl.1 rfl (lv_room (Nat.le_of_ble_eq_true rfl)) dX12_readShade_16 ⟨Nat.zero_le _, Nat.zero_le _⟩ (fun S4 H locs hq G => ?_)
  rw [hq] at G
  clear hq eS2
  have hl := lv_sub hl [0] rfl
  exact tr_readShade_b19 E hA hR hml kr55 kr91 _ _ _ _ _ h G hl
def fr_readShade (S : MS)  : Option (MS) := elet (S.2.1 11 118) fun v2 => if v2 ≤ 0 then (fr_readShade_b15 S) else (obind (fr_faults S 3) fun S4 => fr_readShade_b15 S4)
set_option maxHeartbeats 4000000 in
set_option maxRecDepth 100000 in
theorem tr_readShade (l : Launch) (D : va_G) (cI cJ cZ : ClassId) (ad : Nat → Nat) (S : MS)  {S1 : MS} (h : fr_readShade S = some S1) : mCv l yX12_readShade (Cond.code yX12_readShade cX12_readShade 2 none :: wsM) 3 44 D cI cJ cZ ad S [] (fun S9 => S9 = S1) := by
  intro sz
  refine pro_in (cc := cX12_readShade) (maxL := 2) (ret := none) (by exact pn_RX12) rfl (by exact Nat.le_of_ble_eq_true rfl) (fun p e s m below meth c ls hx hb hr hts hown hlocks hml hv hl => ?_)
  obtain ⟨hsz, hP, hK, hD0, hR⟩ := hv
  subst hsz
  have hD := hD0.self (sz := s.heap.size)
  generalize hAe : va_A (MW cI cJ cZ ad S) s.heap.size = A at hD ⊢
  have hA : ∀ q : Nat, s.heap.size ≤ q → A q := fun q h => by rw [← hAe]; exact Or.inr h
  have G : mG D cI cJ cZ ad A s.heap s.heap [] S := ⟨hP, hD, va_S.rf⟩
  have E : mE p c cX12_readShade s m ([.ref (ad 0)] : List Value).toArray (Cond.code yX12_readShade cX12_readShade 2 none :: wsM) D cI cJ cZ := ⟨hx, hb, hts, hown, hK, fun w h => .tail _ (iM_x h)⟩
  have hl : lv_has ls 2 [(0, .ref (ad 0))] := hl
  unfold fr_readShade at h
  refine lv_aload_n hx hb dX12_readShade_0 rfl (lv_at hl 0 rfl) ?_
  refine m_get E G 11 (v := .ref (ad 11)) (by decide) (.tail _ qM_8) rfl dX12_readShade_1 rfl ?_
  refine lv_bipush (v := 118) hx hb dX12_readShade_4 (by decide) ?_
  refine m_iald E G 11 3 (n := 131) (k := 118) rfl rfl (by decide) (by decide) dX12_readShade_6 ?_
  refine lv_topi (fun v2 ev2 => ?_)
  have h := elet_at ev2 h
  clear ev2
  refine lv_if_le (tgt := 15) hx hb dX12_readShade_7 (by decide) (fun c3 => ?_) (fun c3 => ?_)
  · have h := oif_pos c3 h
    have hl := lv_sub hl [0] rfl
    exact tr_readShade_b15 E hA hR hml (fun H locs ls G => W.vret hx hb hr (fun t ht hW => ⟨⟨S1, rfl, rfl, ⟨by rw [ht]; exact G.1, va_K.moved hW.alike hK, G.2.1⟩⟩, G.2.2.F ht⟩) G.2.2.2.2 dX12_readShade_55) (fun H locs ls G => W.vret hx hb hr (fun t ht hW => ⟨⟨S1, rfl, rfl, ⟨by rw [ht]; exact G.1, va_K.moved hW.alike hK, G.2.1⟩⟩, G.2.2.F ht⟩) G.2.2.2.2 dX12_readShade_91) _ _ _ _ h G hl
  · have h := oif_neg c3 h
    refine lv_aload_n hx hb dX12_readShade_10 rfl (lv_at hl 0 rfl) ?_
    refine lv_iconst (v := 3) hx hb dX12_readShade_11 (by decide) ?_
    obtain ⟨S4, eS4, h⟩ := obind_some h
    refine m_callv (As := [.int 3]) (rest := []) E G hA hR hml (tr_faults l D cI cJ cZ ad S 3 eS4) (cwV 1 hts (gmV qM_118 qM_119 qM_120 qM_35 qM_42) rfl rfl rfl (by decide +kernel) ⟨Nat.le_of_ble_eq_true rfl, Nat.le_of_ble_eq_true rfl⟩) rfl hl.1 rfl (lv_room (Nat.le_of_ble_eq_true rfl)) dX12_readShade_12 ⟨Nat.zero_le _, Nat.zero_le _⟩ (fun S6 H locs hq G => ?_)
    rw [hq] at G
    clear hq eS4
    have hl := lv_sub hl [0] rfl
    exact tr_readShade_b15 E hA hR hml (fun H locs ls G => W.vret hx hb hr (fun t ht hW => ⟨⟨S1, rfl, rfl, ⟨by rw [ht]; exact G.1, va_K.moved hW.alike hK, G.2.1⟩⟩, G.2.2.F ht⟩) G.2.2.2.2 dX12_readShade_55) (fun H locs ls G => W.vret hx hb hr (fun t ht hW => ⟨⟨S1, rfl, rfl, ⟨by rw [ht]; exact G.1, va_K.moved hW.alike hK, G.2.1⟩⟩, G.2.2.F ht⟩) G.2.2.2.2 dX12_readShade_91) _ _ _ _ h G hl
def fr_readOff_b63  (S : MS)  : Option (MS) := some S
set_option maxHeartbeats 4000000 in
set_option maxRecDepth 100000 in
theorem tr_readOff_b63 {p : Program} {l : Launch} {e : Env} {s : State} {m : MethodId} {args : Array Value} {below : List Frame} {meth : Method} {c : Code} {Q : State → Prop} {D : va_G} {A : Nat → Prop} {H0 : Heap} {cI cJ cZ : ClassId} {ad : Nat → Nat} {S1 : MS} (E : mE p c cX12_readOff s m args (Cond.code yX12_readOff cX12_readOff 2 none :: wsM) D cI cJ cZ) (hA : ∀ q : Nat, H0.size ≤ q → A q) (hR : sR s) (hml : c.maxLocals = 2) (kr63 : ∀ (H : Heap) (locs : List Loc) (ls : Array Slot), mG D cI cJ cZ ad A H0 H locs S1 → W p l e { frames := 3, cells := 0, slots := 0, locals := 44 } s m args below meth c H locs 0 0 Q (F0 m 63 ls [])) : ∀ (S : MS) (H : Heap) (locs : List Loc) (ls : Array Slot), fr_readOff_b63 S = some S1 → mG D cI cJ cZ ad A H0 H locs S → lv_has ls 2 [] → W p l e { frames := 3, cells := 0, slots := 0, locals := 44 } s m args below meth c H locs 0 0 Q (F0 m 63 ls []) := by
  have hx := E.1
  have hb := E.2.1
  have hts := E.2.2.1
  have hown := E.2.2.2.1
  have hK := E.2.2.2.2.1
  intro S H locs ls h G hl
  unfold fr_readOff_b63 at h
  rw [osome1 h] at G
  exact kr63 _ _ _ G
def fr_readOff_b42  (S : MS) (l1 : Int32) : Option (MS) := obind (fr_nextToken S) fun S2 => elet (S2.1 5) fun v5 => if v5 = 0 then (elet (25 + l1) fun v7 => oif (inb v7 2455 = true) <| elet (mf S2 13 (upd (S2.2.1 13) v7.toNatClampNeg 0)) fun S9 => fr_readOff_b63 S9) else (fr_readOff_b63 S2)
set_option maxHeartbeats 4000000 in
set_option maxRecDepth 100000 in
theorem tr_readOff_b42 {p : Program} {l : Launch} {e : Env} {s : State} {m : MethodId} {args : Array Value} {below : List Frame} {meth : Method} {c : Code} {Q : State → Prop} {D : va_G} {A : Nat → Prop} {H0 : Heap} {cI cJ cZ : ClassId} {ad : Nat → Nat} {S1 : MS} (E : mE p c cX12_readOff s m args (Cond.code yX12_readOff cX12_readOff 2 none :: wsM) D cI cJ cZ) (hA : ∀ q : Nat, H0.size ≤ q → A q) (hR : sR s) (hml : c.maxLocals = 2) (kr63 : ∀ (H : Heap) (locs : List Loc) (ls : Array Slot), mG D cI cJ cZ ad A H0 H locs S1 → W p l e { frames := 3, cells := 0, slots := 0, locals := 44 } s m args below meth c H locs 0 0 Q (F0 m 63 ls [])) : ∀ (S : MS) (H : Heap) (locs : List Loc) (ls : Array Slot) (l1 : Int32), fr_readOff_b42 S l1 = some S1 → mG D cI cJ cZ ad A H0 H locs S → lv_has ls 2 [(0, .ref (ad 0)), (1, .int l1)] → W p l e { frames := 3, cells := 0, slots := 0, locals := 44 } s m args below meth c H locs 0 0 Q (F0 m 42 ls []) := by
  have hx := E.1
  have hb := E.2.1
  have hts := E.2.2.1
  have hown := E.2.2.2.1
  have hK := E.2.2.2.2.1
  intro S H locs ls l1 h G hl
  unfold fr_readOff_b42 at h
  refine lv_aload_n hx hb dX12_readOff_42 rfl (lv_at hl 0 rfl) ?_
  obtain ⟨S2, eS2, h⟩ := obind_some h
  refine m_callv (As := []) (rest := []) E G hA hR hml (tr_nextToken l D cI cJ cZ ad S eS2) (cwV 0 hts (gmV qM_111 qM_112 qM_113 qM_35 qM_45) rfl rfl rfl (by decide +kernel) ⟨Nat.le_of_ble_eq_true rfl, Nat.le_of_ble_eq_true rfl⟩) rfl hl.1 rfl (lv_room (Nat.le_of_ble_eq_true rfl)) dX12_readOff_43 ⟨Nat.zero_le _, Nat.zero_le _⟩ (fun S4 H locs hq G => ?_)
  rw [hq] at G
  clear hq eS2
  refine lv_aload_n hx hb dX12_readOff_46 rfl (lv_at hl 0 rfl) ?_
  refine m_get E G 5 (v := .int (S2.1 5)) (by decide) (.tail _ qM_38) rfl dX12_readOff_47 rfl ?_
  refine lv_topi (fun v5 ev5 => ?_)
  have h := elet_at ev5 h
  clear ev5
  refine lv_if_ne (tgt := 63) hx hb dX12_readOff_50 (by decide) (fun c6 => ?_) (fun c6 => ?_)
  · have h := oif_neg c6 h
    have hl := lv_sub hl [] rfl
    exact tr_readOff_b63 E hA hR hml kr63 _ _ _ _ h G hl
  · have h := oif_pos c6 h
    refine lv_aload_n hx hb dX12_readOff_53 rfl (lv_at hl 0 rfl) ?_
    refine m_get E G 13 (v := .ref (ad 13)) (by decide) (.tail _ qM_10) rfl dX12_readOff_54 rfl ?_
    refine lv_bipush (v := 25) hx hb dX12_readOff_57 (by decide) ?_
    refine lv_iload_n hx hb dX12_readOff_59 rfl (lv_at hl 1 rfl) ?_
    refine lv_iadd hx hb dX12_readOff_60 ?_
    refine lv_topi (fun v7 ev7 => ?_)
    have h := elet_at ev7 h
    clear ev7
    refine lv_iconst (v := 0) hx hb dX12_readOff_61 (by decide) ?_
    obtain ⟨g8, h⟩ := oif_some h
    refine m_iast E G 13 5 (k := v7.toNatClampNeg) (v := 0) rfl (fun _ => rfl) (inb_k g8).1 (inb_k g8).2 (by decide) dX12_readOff_62 (fun H locs G => ?_)
    obtain ⟨S9, eS9, h⟩ := elet_some h
    rw [← eS9] at G
    clear eS9
    have hl := lv_sub hl [] rfl
    exact tr_readOff_b63 E hA hR hml kr63 _ _ _ _ h G hl
def fr_readOff (S : MS)  : Option (MS) := obind (fr_nextToken S) fun S2 => elet (S2.2.1 11 5) fun v5 => elet (v5 - 1) fun v6 => obind2 (fr_look S2 0 v6) fun r10 S7 => elet (S7.1 5) fun v11 => if v11 = 0 then (elet (25 + r10) fun v13 => oif (inb v13 2455 = true) <| elet (S7.2.1 13 v13.toNatClampNeg) fun v15 => if v15 = 0 then (obind (fr_faults S7 3) fun S17 => fr_readOff_b42 S17 r10) else (fr_readOff_b42 S7 r10)) else (fr_readOff_b42 S7 r10)
set_option maxHeartbeats 4000000 in
set_option maxRecDepth 100000 in
theorem tr_readOff (l : Launch) (D : va_G) (cI cJ cZ : ClassId) (ad : Nat → Nat) (S : MS)  {S1 : MS} (h : fr_readOff S = some S1) : mCv l yX12_readOff (Cond.code yX12_readOff cX12_readOff 2 none :: wsM) 3 44 D cI cJ cZ ad S [] (fun S9 => S9 = S1) := by
  intro sz
  refine pro_in (cc := cX12_readOff) (maxL := 2) (ret := none) (by exact pn_RX12) rfl (by exact Nat.le_of_ble_eq_true rfl) (fun p e s m below meth c ls hx hb hr hts hown hlocks hml hv hl => ?_)
  obtain ⟨hsz, hP, hK, hD0, hR⟩ := hv
  subst hsz
  have hD := hD0.self (sz := s.heap.size)
  generalize hAe : va_A (MW cI cJ cZ ad S) s.heap.size = A at hD ⊢
  have hA : ∀ q : Nat, s.heap.size ≤ q → A q := fun q h => by rw [← hAe]; exact Or.inr h
  have G : mG D cI cJ cZ ad A s.heap s.heap [] S := ⟨hP, hD, va_S.rf⟩
  have E : mE p c cX12_readOff s m ([.ref (ad 0)] : List Value).toArray (Cond.code yX12_readOff cX12_readOff 2 none :: wsM) D cI cJ cZ := ⟨hx, hb, hts, hown, hK, fun w h => .tail _ (iM_x h)⟩
  have hl : lv_has ls 2 [(0, .ref (ad 0))] := hl
  unfold fr_readOff at h
  refine lv_aload_n hx hb dX12_readOff_0 rfl (lv_at hl 0 rfl) ?_
  obtain ⟨S2, eS2, h⟩ := obind_some h
  refine m_callv (As := []) (rest := []) E G hA hR hml (tr_nextToken l D cI cJ cZ ad S eS2) (cwV 0 hts (gmV qM_111 qM_112 qM_113 qM_35 qM_45) rfl rfl rfl (by decide +kernel) ⟨Nat.le_of_ble_eq_true rfl, Nat.le_of_ble_eq_true rfl⟩) rfl hl.1 rfl (lv_room (Nat.le_of_ble_eq_true rfl)) dX12_readOff_1 ⟨Nat.zero_le _, Nat.zero_le _⟩ (fun S4 H locs hq G => ?_)
  rw [hq] at G
  clear hq eS2
  refine lv_aload_n hx hb dX12_readOff_4 rfl (lv_at hl 0 rfl) ?_
  refine lv_iconst (v := 0) hx hb dX12_readOff_5 (by decide) ?_
  refine lv_aload_n hx hb dX12_readOff_6 rfl (lv_at hl 0 rfl) ?_
  refine m_get E G 11 (v := .ref (ad 11)) (by decide) (.tail _ qM_8) rfl dX12_readOff_7 rfl ?_
  refine lv_iconst (v := 5) hx hb dX12_readOff_10 (by decide) ?_
  refine m_iald E G 11 3 (n := 131) (k := 5) rfl rfl (by decide) (by decide) dX12_readOff_11 ?_
  refine lv_topi (fun v5 ev5 => ?_)
  have h := elet_at ev5 h
  clear ev5
  refine lv_iconst (v := 1) hx hb dX12_readOff_12 (by decide) ?_
  refine lv_isub hx hb dX12_readOff_13 ?_
  refine lv_topi (fun v6 ev6 => ?_)
  have h := elet_at ev6 h
  clear ev6
  obtain ⟨r10, S7, eS7, h⟩ := obind2_some h
  refine m_calli (As := [.int 0, .int v6]) (rest := []) E G hA hR hml (tr_look l D cI cJ cZ ad S2 0 v6 eS7) (cwV 2 hts (gmV qM_123 qM_124 qM_125 qM_35 qM_121) rfl rfl rfl (by decide +kernel) ⟨Nat.le_of_ble_eq_true rfl, Nat.le_of_ble_eq_true rfl⟩) rfl hl.1 rfl (lv_room (Nat.le_of_ble_eq_true rfl)) dX12_readOff_14 ⟨Nat.zero_le _, Nat.zero_le _⟩ (fun q8 S9 H locs hq G => ?_)
  obtain ⟨hq1, hq2⟩ := hq
  rw [hq2] at G
  refine lv_to hq1 ?_
  clear hq1 hq2 eS7
  refine lv_istore_n (lv' := [(1, .int r10), (0, .ref (ad 0))]) hx hb dX12_readOff_17 rfl hl (by decide) rfl (fun ls hl => ?_)
  refine lv_aload_n hx hb dX12_readOff_18 rfl (lv_at hl 1 rfl) ?_
  refine m_get E G 5 (v := .int (S7.1 5)) (by decide) (.tail _ qM_38) rfl dX12_readOff_19 rfl ?_
  refine lv_topi (fun v11 ev11 => ?_)
  have h := elet_at ev11 h
  clear ev11
  refine lv_if_ne (tgt := 42) hx hb dX12_readOff_22 (by decide) (fun c12 => ?_) (fun c12 => ?_)
  · have h := oif_neg c12 h
    have hl := lv_sub hl [1, 0] rfl
    exact tr_readOff_b42 E hA hR hml (fun H locs ls G => W.vret hx hb hr (fun t ht hW => ⟨⟨S1, rfl, rfl, ⟨by rw [ht]; exact G.1, va_K.moved hW.alike hK, G.2.1⟩⟩, G.2.2.F ht⟩) G.2.2.2.2 dX12_readOff_63) _ _ _ _ _ h G hl
  · have h := oif_pos c12 h
    refine lv_aload_n hx hb dX12_readOff_25 rfl (lv_at hl 1 rfl) ?_
    refine m_get E G 13 (v := .ref (ad 13)) (by decide) (.tail _ qM_10) rfl dX12_readOff_26 rfl ?_
    refine lv_bipush (v := 25) hx hb dX12_readOff_29 (by decide) ?_
    refine lv_iload_n hx hb dX12_readOff_31 rfl (lv_at hl 0 rfl) ?_
    refine lv_iadd hx hb dX12_readOff_32 ?_
    refine lv_topi (fun v13 ev13 => ?_)
    have h := elet_at ev13 h
    clear ev13
    obtain ⟨g14, h⟩ := oif_some h
    refine m_iald E G 13 5 (n := 2455) (k := v13.toNatClampNeg) rfl (inb_k g14).1 (inb_k g14).2 (by decide) dX12_readOff_33 ?_
    refine lv_topi (fun v15 ev15 => ?_)
    have h := elet_at ev15 h
    clear ev15
    refine lv_if_ne (tgt := 42) hx hb dX12_readOff_34 (by decide) (fun c16 => ?_) (fun c16 => ?_)
    · have h := oif_neg c16 h
      have hl := lv_sub hl [1, 0] rfl
      exact tr_readOff_b42 E hA hR hml (fun H locs ls G => W.vret hx hb hr (fun t ht hW => ⟨⟨S1, rfl, rfl, ⟨by rw [ht]; exact G.1, va_K.moved hW.alike hK, G.2.1⟩⟩, G.2.2.F ht⟩) G.2.2.2.2 dX12_readOff_63) _ _ _ _ _ h G hl
    · have h := oif_pos c16 h
      refine lv_aload_n hx hb dX12_readOff_37 rfl (lv_at hl 1 rfl) ?_
      refine lv_iconst (v := 3) hx hb dX12_readOff_38 (by decide) ?_
      obtain ⟨S17, eS17, h⟩ := obind_some h
      refine m_callv (As := [.int 3]) (rest := []) E G hA hR hml (tr_faults l D cI cJ cZ ad S7 3 eS17) (cwV 1 hts (gmV qM_118 qM_119 qM_120 qM_35 qM_42) rfl rfl rfl (by decide +kernel) ⟨Nat.le_of_ble_eq_true rfl, Nat.le_of_ble_eq_true rfl⟩) rfl hl.1 rfl (lv_room (Nat.le_of_ble_eq_true rfl)) dX12_readOff_39 ⟨Nat.zero_le _, Nat.zero_le _⟩ (fun S19 H locs hq G => ?_)
      rw [hq] at G
      clear hq eS17
      have hl := lv_sub hl [1, 0] rfl
      exact tr_readOff_b42 E hA hR hml (fun H locs ls G => W.vret hx hb hr (fun t ht hW => ⟨⟨S1, rfl, rfl, ⟨by rw [ht]; exact G.1, va_K.moved hW.alike hK, G.2.1⟩⟩, G.2.2.F ht⟩) G.2.2.2.2 dX12_readOff_63) _ _ _ _ _ h G hl
def fr_readZone_b18  (S : MS) (l1 : Int32) : Option (MS) := obind (fr_nextToken S) fun S2 => elet (S2.2.1 11 9) fun v5 => elet (v5 - 1) fun v6 => obind2 (fr_number S2 0 v6) fun r10 S7 => elet (S7.2.1 11 10) fun v11 => elet (v11 - 1) fun v12 => obind2 (fr_number S7 0 v12) fun r16 S13 => elet (S13.2.1 11 9) fun v17 => elet (v17 - 1) fun v18 => obind2 (fr_number S13 r10 v18) fun r22 S19 => elet (S19.2.1 11 10) fun v23 => elet (v23 - 1) fun v24 => obind2 (fr_number S19 r16 v24) fun r28 S25 => elet (S25.1 5) fun v29 => if v29 ≤ 0 then (elet (4 * l1) fun v31 => elet (102 + v31) fun v32 => oif (inb v32 131 = true) <| elet (mf S25 11 (upd (S25.2.1 11) v32.toNatClampNeg r10)) fun S34 => elet (v32 + 1) fun v35 => oif (inb v35 131 = true) <| elet (mf S34 11 (upd (S34.2.1 11) v35.toNatClampNeg r16)) fun S37 => elet (v32 + 2) fun v38 => oif (inb v38 131 = true) <| elet (mf S37 11 (upd (S37.2.1 11) v38.toNatClampNeg r22)) fun S40 => elet (v32 + 3) fun v41 => oif (inb v41 131 = true) <| elet (mf S40 11 (upd (S40.2.1 11) v41.toNatClampNeg r28)) fun S43 => elet (S43.2.1 11 101) fun v44 => elet (v44 + 1) fun v45 => elet (mf S43 11 (upd (S43.2.1 11) 101 v45)) fun S46 => some S46) else (some S25)
set_option maxHeartbeats 4000000 in
set_option maxRecDepth 100000 in
theorem tr_readZone_b18 {p : Program} {l : Launch} {e : Env} {s : State} {m : MethodId} {args : Array Value} {below : List Frame} {meth : Method} {c : Code} {Q : State → Prop} {D : va_G} {A : Nat → Prop} {H0 : Heap} {cI cJ cZ : ClassId} {ad : Nat → Nat} {S1 : MS} (E : mE p c cX12_readZone s m args (Cond.code yX12_readZone cX12_readZone 7 none :: wsM) D cI cJ cZ) (hA : ∀ q : Nat, H0.size ≤ q → A q) (hR : sR s) (hml : c.maxLocals = 7) (kr91 : ∀ (H : Heap) (locs : List Loc) (ls : Array Slot), mG D cI cJ cZ ad A H0 H locs S1 → W p l e { frames := 4, cells := 0, slots := 0, locals := 67 } s m args below meth c H locs 0 0 Q (F0 m 91 ls [])) (kr151 : ∀ (H : Heap) (locs : List Loc) (ls : Array Slot), mG D cI cJ cZ ad A H0 H locs S1 → W p l e { frames := 4, cells := 0, slots := 0, locals := 67 } s m args below meth c H locs 0 0 Q (F0 m 151 ls [])) : ∀ (S : MS) (H : Heap) (locs : List Loc) (ls : Array Slot) (l1 : Int32), fr_readZone_b18 S l1 = some S1 → mG D cI cJ cZ ad A H0 H locs S → lv_has ls 7 [(0, .ref (ad 0)), (1, .int l1)] → W p l e { frames := 4, cells := 0, slots := 0, locals := 67 } s m args below meth c H locs 0 0 Q (F0 m 18 ls []) := by
  have hx := E.1
  have hb := E.2.1
  have hts := E.2.2.1
  have hown := E.2.2.2.1
  have hK := E.2.2.2.2.1
  intro S H locs ls l1 h G hl
  unfold fr_readZone_b18 at h
  refine lv_aload_n hx hb dX12_readZone_18 rfl (lv_at hl 0 rfl) ?_
  obtain ⟨S2, eS2, h⟩ := obind_some h
  refine m_callv (As := []) (rest := []) E G hA hR hml (tr_nextToken l D cI cJ cZ ad S eS2) (cwV 0 hts (gmV qM_111 qM_112 qM_113 qM_35 qM_45) rfl rfl rfl (by decide +kernel) ⟨Nat.le_of_ble_eq_true rfl, Nat.le_of_ble_eq_true rfl⟩) rfl hl.1 rfl (lv_room (Nat.le_of_ble_eq_true rfl)) dX12_readZone_19 ⟨Nat.zero_le _, Nat.zero_le _⟩ (fun S4 H locs hq G => ?_)
  rw [hq] at G
  clear hq eS2
  refine lv_aload_n hx hb dX12_readZone_22 rfl (lv_at hl 0 rfl) ?_
  refine lv_iconst (v := 0) hx hb dX12_readZone_23 (by decide) ?_
  refine lv_aload_n hx hb dX12_readZone_24 rfl (lv_at hl 0 rfl) ?_
  refine m_get E G 11 (v := .ref (ad 11)) (by decide) (.tail _ qM_8) rfl dX12_readZone_25 rfl ?_
  refine lv_bipush (v := 9) hx hb dX12_readZone_28 (by decide) ?_
  refine m_iald E G 11 3 (n := 131) (k := 9) rfl rfl (by decide) (by decide) dX12_readZone_30 ?_
  refine lv_topi (fun v5 ev5 => ?_)
  have h := elet_at ev5 h
  clear ev5
  refine lv_iconst (v := 1) hx hb dX12_readZone_31 (by decide) ?_
  refine lv_isub hx hb dX12_readZone_32 ?_
  refine lv_topi (fun v6 ev6 => ?_)
  have h := elet_at ev6 h
  clear ev6
  obtain ⟨r10, S7, eS7, h⟩ := obind2_some h
  refine m_calli (As := [.int 0, .int v6]) (rest := []) E G hA hR hml (tr_number l D cI cJ cZ ad S2 0 v6 eS7) (cwV 2 hts (gmV qM_130 qM_131 qM_132 qM_35 qM_122) rfl rfl rfl (by decide +kernel) ⟨Nat.le_of_ble_eq_true rfl, Nat.le_of_ble_eq_true rfl⟩) rfl hl.1 rfl (lv_room (Nat.le_of_ble_eq_true rfl)) dX12_readZone_33 ⟨Nat.zero_le _, Nat.zero_le _⟩ (fun q8 S9 H locs hq G => ?_)
  obtain ⟨hq1, hq2⟩ := hq
  rw [hq2] at G
  refine lv_to hq1 ?_
  clear hq1 hq2 eS7
  refine lv_istore_n (lv' := [(2, .int r10), (0, .ref (ad 0)), (1, .int l1)]) hx hb dX12_readZone_36 rfl hl (by decide) rfl (fun ls hl => ?_)
  refine lv_aload_n hx hb dX12_readZone_37 rfl (lv_at hl 1 rfl) ?_
  refine lv_iconst (v := 0) hx hb dX12_readZone_38 (by decide) ?_
  refine lv_aload_n hx hb dX12_readZone_39 rfl (lv_at hl 1 rfl) ?_
  refine m_get E G 11 (v := .ref (ad 11)) (by decide) (.tail _ qM_8) rfl dX12_readZone_40 rfl ?_
  refine lv_bipush (v := 10) hx hb dX12_readZone_43 (by decide) ?_
  refine m_iald E G 11 3 (n := 131) (k := 10) rfl rfl (by decide) (by decide) dX12_readZone_45 ?_
  refine lv_topi (fun v11 ev11 => ?_)
  have h := elet_at ev11 h
  clear ev11
  refine lv_iconst (v := 1) hx hb dX12_readZone_46 (by decide) ?_
  refine lv_isub hx hb dX12_readZone_47 ?_
  refine lv_topi (fun v12 ev12 => ?_)
  have h := elet_at ev12 h
  clear ev12
  obtain ⟨r16, S13, eS13, h⟩ := obind2_some h
  refine m_calli (As := [.int 0, .int v12]) (rest := []) E G hA hR hml (tr_number l D cI cJ cZ ad S7 0 v12 eS13) (cwV 2 hts (gmV qM_130 qM_131 qM_132 qM_35 qM_122) rfl rfl rfl (by decide +kernel) ⟨Nat.le_of_ble_eq_true rfl, Nat.le_of_ble_eq_true rfl⟩) rfl hl.1 rfl (lv_room (Nat.le_of_ble_eq_true rfl)) dX12_readZone_48 ⟨Nat.zero_le _, Nat.zero_le _⟩ (fun q14 S15 H locs hq G => ?_)
  obtain ⟨hq1, hq2⟩ := hq
  rw [hq2] at G
  refine lv_to hq1 ?_
  clear hq1 hq2 eS13
  refine lv_istore_n (lv' := [(3, .int r16), (2, .int r10), (0, .ref (ad 0)), (1, .int l1)]) hx hb dX12_readZone_51 rfl hl (by decide) rfl (fun ls hl => ?_)
  refine lv_aload_n hx hb dX12_readZone_52 rfl (lv_at hl 2 rfl) ?_
  refine lv_iload_n hx hb dX12_readZone_53 rfl (lv_at hl 1 rfl) ?_
  refine lv_aload_n hx hb dX12_readZone_54 rfl (lv_at hl 2 rfl) ?_
  refine m_get E G 11 (v := .ref (ad 11)) (by decide) (.tail _ qM_8) rfl dX12_readZone_55 rfl ?_
  refine lv_bipush (v := 9) hx hb dX12_readZone_58 (by decide) ?_
  refine m_iald E G 11 3 (n := 131) (k := 9) rfl rfl (by decide) (by decide) dX12_readZone_60 ?_
  refine lv_topi (fun v17 ev17 => ?_)
  have h := elet_at ev17 h
  clear ev17
  refine lv_iconst (v := 1) hx hb dX12_readZone_61 (by decide) ?_
  refine lv_isub hx hb dX12_readZone_62 ?_
  refine lv_topi (fun v18 ev18 => ?_)
  have h := elet_at ev18 h
  clear ev18
  obtain ⟨r22, S19, eS19, h⟩ := obind2_some h
  refine m_calli (As := [.int r10, .int v18]) (rest := []) E G hA hR hml (tr_number l D cI cJ cZ ad S13 r10 v18 eS19) (cwV 2 hts (gmV qM_130 qM_131 qM_132 qM_35 qM_122) rfl rfl rfl (by decide +kernel) ⟨Nat.le_of_ble_eq_true rfl, Nat.le_of_ble_eq_true rfl⟩) rfl hl.1 rfl (lv_room (Nat.le_of_ble_eq_true rfl)) dX12_readZone_63 ⟨Nat.zero_le _, Nat.zero_le _⟩ (fun q20 S21 H locs hq G => ?_)
  obtain ⟨hq1, hq2⟩ := hq
  rw [hq2] at G
  refine lv_to hq1 ?_
  clear hq1 hq2 eS19
  refine lv_istore (lv' := [(4, .int r22), (3, .int r16), (2, .int r10), (0, .ref (ad 0)), (1, .int l1)]) hx hb dX12_readZone_66 hl (by decide) rfl (fun ls hl => ?_)
  refine lv_aload_n hx hb dX12_readZone_68 rfl (lv_at hl 3 rfl) ?_
  refine lv_iload_n hx hb dX12_readZone_69 rfl (lv_at hl 1 rfl) ?_
  refine lv_aload_n hx hb dX12_readZone_70 rfl (lv_at hl 3 rfl) ?_
  refine m_get E G 11 (v := .ref (ad 11)) (by decide) (.tail _ qM_8) rfl dX12_readZone_71 rfl ?_
  refine lv_bipush (v := 10) hx hb dX12_readZone_74 (by decide) ?_
  refine m_iald E G 11 3 (n := 131) (k := 10) rfl rfl (by decide) (by decide) dX12_readZone_76 ?_
  refine lv_topi (fun v23 ev23 => ?_)
  have h := elet_at ev23 h
  clear ev23
  refine lv_iconst (v := 1) hx hb dX12_readZone_77 (by decide) ?_
  refine lv_isub hx hb dX12_readZone_78 ?_
  refine lv_topi (fun v24 ev24 => ?_)
  have h := elet_at ev24 h
  clear ev24
  obtain ⟨r28, S25, eS25, h⟩ := obind2_some h
  refine m_calli (As := [.int r16, .int v24]) (rest := []) E G hA hR hml (tr_number l D cI cJ cZ ad S19 r16 v24 eS25) (cwV 2 hts (gmV qM_130 qM_131 qM_132 qM_35 qM_122) rfl rfl rfl (by decide +kernel) ⟨Nat.le_of_ble_eq_true rfl, Nat.le_of_ble_eq_true rfl⟩) rfl hl.1 rfl (lv_room (Nat.le_of_ble_eq_true rfl)) dX12_readZone_79 ⟨Nat.zero_le _, Nat.zero_le _⟩ (fun q26 S27 H locs hq G => ?_)
  obtain ⟨hq1, hq2⟩ := hq
  rw [hq2] at G
  refine lv_to hq1 ?_
  clear hq1 hq2 eS25
  refine lv_istore (lv' := [(5, .int r28), (4, .int r22), (3, .int r16), (2, .int r10), (0, .ref (ad 0)), (1, .int l1)]) hx hb dX12_readZone_82 hl (by decide) rfl (fun ls hl => ?_)
  refine lv_aload_n hx hb dX12_readZone_84 rfl (lv_at hl 4 rfl) ?_
  refine m_get E G 5 (v := .int (S25.1 5)) (by decide) (.tail _ qM_38) rfl dX12_readZone_85 rfl ?_
  refine lv_topi (fun v29 ev29 => ?_)
  have h := elet_at ev29 h
  clear ev29
  refine lv_if_le (tgt := 92) hx hb dX12_readZone_88 (by decide) (fun c30 => ?_) (fun c30 => ?_)
  · have h := oif_pos c30 h
    refine lv_bipush (v := 102) hx hb dX12_readZone_92 (by decide) ?_
    refine lv_iconst (v := 4) hx hb dX12_readZone_94 (by decide) ?_
    refine lv_iload_n hx hb dX12_readZone_95 rfl (lv_at hl 5 rfl) ?_
    refine lv_imul hx hb dX12_readZone_96 ?_
    refine lv_topi (fun v31 ev31 => ?_)
    have h := elet_at ev31 h
    clear ev31
    refine lv_iadd hx hb dX12_readZone_97 ?_
    refine lv_topi (fun v32 ev32 => ?_)
    have h := elet_at ev32 h
    clear ev32
    refine lv_istore (lv' := [(6, .int v32), (5, .int r28), (4, .int r22), (3, .int r16), (2, .int r10), (0, .ref (ad 0)), (1, .int l1)]) hx hb dX12_readZone_98 hl (by decide) rfl (fun ls hl => ?_)
    refine lv_aload_n hx hb dX12_readZone_100 rfl (lv_at hl 5 rfl) ?_
    refine m_get E G 11 (v := .ref (ad 11)) (by decide) (.tail _ qM_8) rfl dX12_readZone_101 rfl ?_
    refine lv_iload hx hb dX12_readZone_104 (lv_at hl 0 rfl) ?_
    refine lv_iload_n hx hb dX12_readZone_106 rfl (lv_at hl 4 rfl) ?_
    obtain ⟨g33, h⟩ := oif_some h
    refine m_iast E G 11 3 (k := v32.toNatClampNeg) (v := r10) rfl (fun _ => rfl) (inb_k g33).1 (inb_k g33).2 (by decide) dX12_readZone_107 (fun H locs G => ?_)
    obtain ⟨S34, eS34, h⟩ := elet_some h
    rw [← eS34] at G
    clear eS34
    refine lv_aload_n hx hb dX12_readZone_108 rfl (lv_at hl 5 rfl) ?_
    refine m_get E G 11 (v := .ref (ad 11)) (by decide) (.tail _ qM_8) rfl dX12_readZone_109 rfl ?_
    refine lv_iload hx hb dX12_readZone_112 (lv_at hl 0 rfl) ?_
    refine lv_iconst (v := 1) hx hb dX12_readZone_114 (by decide) ?_
    refine lv_iadd hx hb dX12_readZone_115 ?_
    refine lv_topi (fun v35 ev35 => ?_)
    have h := elet_at ev35 h
    clear ev35
    refine lv_iload_n hx hb dX12_readZone_116 rfl (lv_at hl 3 rfl) ?_
    obtain ⟨g36, h⟩ := oif_some h
    refine m_iast E G 11 3 (k := v35.toNatClampNeg) (v := r16) rfl (fun _ => rfl) (inb_k g36).1 (inb_k g36).2 (by decide) dX12_readZone_117 (fun H locs G => ?_)
    obtain ⟨S37, eS37, h⟩ := elet_some h
    rw [← eS37] at G
    clear eS37
    refine lv_aload_n hx hb dX12_readZone_118 rfl (lv_at hl 5 rfl) ?_
    refine m_get E G 11 (v := .ref (ad 11)) (by decide) (.tail _ qM_8) rfl dX12_readZone_119 rfl ?_
    refine lv_iload hx hb dX12_readZone_122 (lv_at hl 0 rfl) ?_
    refine lv_iconst (v := 2) hx hb dX12_readZone_124 (by decide) ?_
    refine lv_iadd hx hb dX12_readZone_125 ?_
    refine lv_topi (fun v38 ev38 => ?_)
    have h := elet_at ev38 h
    clear ev38
    refine lv_iload hx hb dX12_readZone_126 (lv_at hl 2 rfl) ?_
    obtain ⟨g39, h⟩ := oif_some h
    refine m_iast E G 11 3 (k := v38.toNatClampNeg) (v := r22) rfl (fun _ => rfl) (inb_k g39).1 (inb_k g39).2 (by decide) dX12_readZone_128 (fun H locs G => ?_)
    obtain ⟨S40, eS40, h⟩ := elet_some h
    rw [← eS40] at G
    clear eS40
    refine lv_aload_n hx hb dX12_readZone_129 rfl (lv_at hl 5 rfl) ?_
    refine m_get E G 11 (v := .ref (ad 11)) (by decide) (.tail _ qM_8) rfl dX12_readZone_130 rfl ?_
    refine lv_iload hx hb dX12_readZone_133 (lv_at hl 0 rfl) ?_
    refine lv_iconst (v := 3) hx hb dX12_readZone_135 (by decide) ?_
    refine lv_iadd hx hb dX12_readZone_136 ?_
    refine lv_topi (fun v41 ev41 => ?_)
    have h := elet_at ev41 h
    clear ev41
    refine lv_iload hx hb dX12_readZone_137 (lv_at hl 1 rfl) ?_
    obtain ⟨g42, h⟩ := oif_some h
    refine m_iast E G 11 3 (k := v41.toNatClampNeg) (v := r28) rfl (fun _ => rfl) (inb_k g42).1 (inb_k g42).2 (by decide) dX12_readZone_139 (fun H locs G => ?_)
    obtain ⟨S43, eS43, h⟩ := elet_some h
    rw [← eS43] at G
    clear eS43
    refine lv_aload_n hx hb dX12_readZone_140 rfl (lv_at hl 5 rfl) ?_
    refine m_get E G 11 (v := .ref (ad 11)) (by decide) (.tail _ qM_8) rfl dX12_readZone_141 rfl ?_
    refine lv_bipush (v := 101) hx hb dX12_readZone_144 (by decide) ?_
    refine lv_dup2_11 hx hb dX12_readZone_146 rfl rfl ?_
    refine m_iald E G 11 3 (n := 131) (k := 101) rfl rfl (by decide) (by decide) dX12_readZone_147 ?_
    refine lv_topi (fun v44 ev44 => ?_)
    have h := elet_at ev44 h
    clear ev44
    refine lv_iconst (v := 1) hx hb dX12_readZone_148 (by decide) ?_
    refine lv_iadd hx hb dX12_readZone_149 ?_
    refine lv_topi (fun v45 ev45 => ?_)
    have h := elet_at ev45 h
    clear ev45
    refine m_iast E G 11 3 (k := 101) (v := v45) rfl (fun _ => rfl) rfl (by decide) (by decide) dX12_readZone_150 (fun H locs G => ?_)
    obtain ⟨S46, eS46, h⟩ := elet_some h
    rw [← eS46] at G
    clear eS46
    rw [osome1 h] at G
    exact kr151 _ _ _ G
  · have h := oif_neg c30 h
    rw [osome1 h] at G
    exact kr91 _ _ _ G
def fr_readZone (S : MS)  : Option (MS) := elet (S.2.1 11 101) fun v2 => if v2 = 4 then (obind (fr_faults S 4) fun S4 => fr_readZone_b18 S4 v2) else (fr_readZone_b18 S v2)
set_option maxHeartbeats 4000000 in
set_option maxRecDepth 100000 in
theorem tr_readZone (l : Launch) (D : va_G) (cI cJ cZ : ClassId) (ad : Nat → Nat) (S : MS)  {S1 : MS} (h : fr_readZone S = some S1) : mCv l yX12_readZone (Cond.code yX12_readZone cX12_readZone 7 none :: wsM) 4 67 D cI cJ cZ ad S [] (fun S9 => S9 = S1) := by
  intro sz
  refine pro_in (cc := cX12_readZone) (maxL := 7) (ret := none) (by exact pn_RX12) rfl (by exact Nat.le_of_ble_eq_true rfl) (fun p e s m below meth c ls hx hb hr hts hown hlocks hml hv hl => ?_)
  obtain ⟨hsz, hP, hK, hD0, hR⟩ := hv
  subst hsz
  have hD := hD0.self (sz := s.heap.size)
  generalize hAe : va_A (MW cI cJ cZ ad S) s.heap.size = A at hD ⊢
  have hA : ∀ q : Nat, s.heap.size ≤ q → A q := fun q h => by rw [← hAe]; exact Or.inr h
  have G : mG D cI cJ cZ ad A s.heap s.heap [] S := ⟨hP, hD, va_S.rf⟩
  have E : mE p c cX12_readZone s m ([.ref (ad 0)] : List Value).toArray (Cond.code yX12_readZone cX12_readZone 7 none :: wsM) D cI cJ cZ := ⟨hx, hb, hts, hown, hK, fun w h => .tail _ (iM_x h)⟩
  have hl : lv_has ls 7 [(0, .ref (ad 0))] := hl
  unfold fr_readZone at h
  refine lv_aload_n hx hb dX12_readZone_0 rfl (lv_at hl 0 rfl) ?_
  refine m_get E G 11 (v := .ref (ad 11)) (by decide) (.tail _ qM_8) rfl dX12_readZone_1 rfl ?_
  refine lv_bipush (v := 101) hx hb dX12_readZone_4 (by decide) ?_
  refine m_iald E G 11 3 (n := 131) (k := 101) rfl rfl (by decide) (by decide) dX12_readZone_6 ?_
  refine lv_topi (fun v2 ev2 => ?_)
  have h := elet_at ev2 h
  clear ev2
  refine lv_istore_n (lv' := [(1, .int v2), (0, .ref (ad 0))]) hx hb dX12_readZone_7 rfl hl (by decide) rfl (fun ls hl => ?_)
  refine lv_iload_n hx hb dX12_readZone_8 rfl (lv_at hl 0 rfl) ?_
  refine lv_iconst (v := 4) hx hb dX12_readZone_9 (by decide) ?_
  refine lv_icmp_ne (tgt := 18) hx hb dX12_readZone_10 (by decide) (fun c3 => ?_) (fun c3 => ?_)
  · have h := oif_neg c3 h
    have hl := lv_sub hl [1, 0] rfl
    exact tr_readZone_b18 E hA hR hml (fun H locs ls G => W.vret hx hb hr (fun t ht hW => ⟨⟨S1, rfl, rfl, ⟨by rw [ht]; exact G.1, va_K.moved hW.alike hK, G.2.1⟩⟩, G.2.2.F ht⟩) G.2.2.2.2 dX12_readZone_91) (fun H locs ls G => W.vret hx hb hr (fun t ht hW => ⟨⟨S1, rfl, rfl, ⟨by rw [ht]; exact G.1, va_K.moved hW.alike hK, G.2.1⟩⟩, G.2.2.F ht⟩) G.2.2.2.2 dX12_readZone_151) _ _ _ _ _ h G hl
  · have h := oif_pos c3 h
    refine lv_aload_n hx hb dX12_readZone_13 rfl (lv_at hl 1 rfl) ?_
    refine lv_iconst (v := 4) hx hb dX12_readZone_14 (by decide) ?_
    obtain ⟨S4, eS4, h⟩ := obind_some h
    refine m_callv (As := [.int 4]) (rest := []) E G hA hR hml (tr_faults l D cI cJ cZ ad S 4 eS4) (cwV 1 hts (gmV qM_118 qM_119 qM_120 qM_35 qM_42) rfl rfl rfl (by decide +kernel) ⟨Nat.le_of_ble_eq_true rfl, Nat.le_of_ble_eq_true rfl⟩) rfl hl.1 rfl (lv_room (Nat.le_of_ble_eq_true rfl)) dX12_readZone_15 ⟨Nat.zero_le _, Nat.zero_le _⟩ (fun S6 H locs hq G => ?_)
    rw [hq] at G
    clear hq eS4
    have hl := lv_sub hl [1, 0] rfl
    exact tr_readZone_b18 E hA hR hml (fun H locs ls G => W.vret hx hb hr (fun t ht hW => ⟨⟨S1, rfl, rfl, ⟨by rw [ht]; exact G.1, va_K.moved hW.alike hK, G.2.1⟩⟩, G.2.2.F ht⟩) G.2.2.2.2 dX12_readZone_91) (fun H locs ls G => W.vret hx hb hr (fun t ht hW => ⟨⟨S1, rfl, rfl, ⟨by rw [ht]; exact G.1, va_K.moved hW.alike hK, G.2.1⟩⟩, G.2.2.F ht⟩) G.2.2.2.2 dX12_readZone_151) _ _ _ _ _ h G hl
def fr_readLine_b165  (S : MS)  : Option (MS) := some S
set_option maxHeartbeats 4000000 in
set_option maxRecDepth 100000 in
theorem tr_readLine_b165 {p : Program} {l : Launch} {e : Env} {s : State} {m : MethodId} {args : Array Value} {below : List Frame} {meth : Method} {c : Code} {Q : State → Prop} {D : va_G} {A : Nat → Prop} {cI cJ cZ : ClassId} {ad : Nat → Nat} {S1 : MS} (E : mE p c cX12_readLine s m args (Cond.code yX12_readLine cX12_readLine 1 none :: wsM) D cI cJ cZ) (hA : ∀ q : Nat, s.heap.size ≤ q → A q) (hR : sR s) (hml : c.maxLocals = 1) {h0 : Nat} (hA0 : ∀ a : Nat, A a → h0 ≤ a) (hT : sAll h0 s) (kr165 : ∀ (H : Heap) (locs : List Loc) (ls : Array Slot), mG D cI cJ cZ ad A s.heap H locs S1 → W p l e { frames := 8, cells := 0, slots := 0, locals := 161 } s m args below meth c H locs 0 0 Q (F0 m 165 ls [])) : ∀ (S : MS) (H : Heap) (locs : List Loc) (ls : Array Slot), fr_readLine_b165 S = some S1 → mG D cI cJ cZ ad A s.heap H locs S → lv_has ls 1 [] → W p l e { frames := 8, cells := 0, slots := 0, locals := 161 } s m args below meth c H locs 0 0 Q (F0 m 165 ls []) := by
  have hx := E.1
  have hb := E.2.1
  have hts := E.2.2.1
  have hown := E.2.2.2.1
  have hK := E.2.2.2.2.1
  intro S H locs ls h G hl
  unfold fr_readLine_b165 at h
  rw [osome1 h] at G
  exact kr165 _ _ _ G
def fr_readLine (S : MS)  : Option (MS) := obind2 (fr_isWord S (sTx "wall")) fun r6 S3 => if r6 = 0 then (obind2 (fr_isWord S3 (sTx "fade")) fun r12 S9 => if r12 = 0 then (obind2 (fr_isWord S9 (sTx "filter")) fun r18 S15 => if r18 = 0 then (obind2 (fr_isWord S15 (sTx "clock")) fun r24 S21 => if r24 = 0 then (obind2 (fr_isWord S21 (sTx "zone")) fun r30 S27 => if r30 = 0 then (obind2 (fr_isWord S27 (sTx "shade")) fun r36 S33 => if r36 = 0 then (obind2 (fr_isWord S33 (sTx "off")) fun r42 S39 => if r42 = 0 then (obind2 (fr_isWord S39 (sTx "mic")) fun r48 S45 => if r48 = 0 then (obind2 (fr_isWord S45 (sTx "map")) fun r54 S51 => if r54 = 0 then (obind2 (fr_isWord S51 (sTx "source")) fun r60 S57 => if r60 = 0 then (obind (fr_faults S57 1) fun S62 => fr_readLine_b165 S62) else (obind (fr_readSource S57) fun S65 => fr_readLine_b165 S65)) else (obind (fr_readMap S51) fun S68 => fr_readLine_b165 S68)) else (obind (fr_readMic S45) fun S71 => fr_readLine_b165 S71)) else (obind (fr_readOff S39) fun S74 => fr_readLine_b165 S74)) else (obind (fr_readShade S33) fun S77 => fr_readLine_b165 S77)) else (obind (fr_readZone S27) fun S80 => fr_readLine_b165 S80)) else (obind (fr_readClock S21) fun S83 => fr_readLine_b165 S83)) else (obind (fr_readFilter S15) fun S86 => fr_readLine_b165 S86)) else (obind (fr_readFade S9) fun S89 => fr_readLine_b165 S89)) else (obind (fr_readWall S3) fun S92 => fr_readLine_b165 S92)
set_option maxHeartbeats 4000000 in
set_option maxRecDepth 100000 in
theorem tr_readLine (l : Launch) (D : va_G) (cI cJ cZ : ClassId) (ad : Nat → Nat) (S : MS) (h0 : Nat)  {S1 : MS} (h : fr_readLine S = some S1) : mCvX l yX12_readLine (Cond.code yX12_readLine cX12_readLine 1 none :: wsM) 8 161 D cI cJ cZ ad S [] (xT0 cI cJ cZ h0 ad S) (fun S9 => S9 = S1) := by
  intro sz
  refine pro_in (cc := cX12_readLine) (maxL := 1) (ret := none) (by exact pn_RX12) rfl (by exact Nat.le_of_ble_eq_true rfl) (fun p e s m below meth c ls hx hb hr hts hown hlocks hml hv hl => ?_)
  obtain ⟨⟨hsz, hP, hK, hD0, hR⟩, hA1, hT⟩ := hv
  subst hsz
  have hD := hD0.self (sz := s.heap.size)
  generalize hAe : va_A (MW cI cJ cZ ad S) s.heap.size = A at hD hA1 ⊢
  have hA : ∀ q : Nat, s.heap.size ≤ q → A q := fun q h => by rw [← hAe]; exact Or.inr h
  have G : mG D cI cJ cZ ad A s.heap s.heap [] S := ⟨hP, hD, va_S.rf⟩
  have E : mE p c cX12_readLine s m ([.ref (ad 0)] : List Value).toArray (Cond.code yX12_readLine cX12_readLine 1 none :: wsM) D cI cJ cZ := ⟨hx, hb, hts, hown, hK, fun w h => .tail _ (iM_x h)⟩
  have hA0 : ∀ a : Nat, A a → h0 ≤ a := hA1
  have hl : lv_has ls 1 [(0, .ref (ad 0))] := hl
  unfold fr_readLine at h
  refine lv_aload_n hx hb dX12_readLine_0 rfl (lv_at hl 0 rfl) ?_
  obtain ⟨w2, hw2, ow2⟩ := hT.1 ("AcousticCameraModel", 171, "wall") (List.mem_of_getElem? (i := 25) rfl)
  refine va_ldcS hx hb hown hw2 dX12_readLine_1 ?_
  obtain ⟨r6, S3, eS3, h⟩ := obind2_some h
  refine m_calliX (As := [.ref w2]) (rest := []) E G hA hR hml (tr_isWord l D cI cJ cZ ad S h0 (q := w2) (sTx_ok (by decide +kernel)) eS3) (cwV 1 hts (gmV qM_108 qM_109 qM_110 qM_35 qM_57) rfl rfl rfl (by decide +kernel) ⟨Nat.le_of_ble_eq_true rfl, Nat.le_of_ble_eq_true rfl⟩) rfl hl.1 rfl (lv_room (Nat.le_of_ble_eq_true rfl)) dX12_readLine_3 ⟨Nat.zero_le _, Nat.zero_le _⟩ (xT1.blind) (xT1.go hT hA0 hA G ow2) (fun q4 S5 H locs hq G => ?_)
  obtain ⟨hq1, hq2⟩ := hq
  rw [hq2] at G
  refine lv_to hq1 ?_
  clear hq1 hq2 eS3
  refine lv_if_eq (tgt := 16) hx hb dX12_readLine_6 (by decide) (fun c7 => ?_) (fun c7 => ?_)
  · have h := oif_pos c7 h
    refine lv_aload_n hx hb dX12_readLine_16 rfl (lv_at hl 0 rfl) ?_
    obtain ⟨w8, hw8, ow8⟩ := hT.1 ("AcousticCameraModel", 176, "fade") (List.mem_of_getElem? (i := 26) rfl)
    refine va_ldcS hx hb hown hw8 dX12_readLine_17 ?_
    obtain ⟨r12, S9, eS9, h⟩ := obind2_some h
    refine m_calliX (As := [.ref w8]) (rest := []) E G hA hR hml (tr_isWord l D cI cJ cZ ad S3 h0 (q := w8) (sTx_ok (by decide +kernel)) eS9) (cwV 1 hts (gmV qM_108 qM_109 qM_110 qM_35 qM_57) rfl rfl rfl (by decide +kernel) ⟨Nat.le_of_ble_eq_true rfl, Nat.le_of_ble_eq_true rfl⟩) rfl hl.1 rfl (lv_room (Nat.le_of_ble_eq_true rfl)) dX12_readLine_19 ⟨Nat.zero_le _, Nat.zero_le _⟩ (xT1.blind) (xT1.go hT hA0 hA G ow8) (fun q10 S11 H locs hq G => ?_)
    obtain ⟨hq1, hq2⟩ := hq
    rw [hq2] at G
    refine lv_to hq1 ?_
    clear hq1 hq2 eS9
    refine lv_if_eq (tgt := 32) hx hb dX12_readLine_22 (by decide) (fun c13 => ?_) (fun c13 => ?_)
    · have h := oif_pos c13 h
      refine lv_aload_n hx hb dX12_readLine_32 rfl (lv_at hl 0 rfl) ?_
      obtain ⟨w14, hw14, ow14⟩ := hT.1 ("AcousticCameraModel", 181, "filter") (List.mem_of_getElem? (i := 27) rfl)
      refine va_ldcS hx hb hown hw14 dX12_readLine_33 ?_
      obtain ⟨r18, S15, eS15, h⟩ := obind2_some h
      refine m_calliX (As := [.ref w14]) (rest := []) E G hA hR hml (tr_isWord l D cI cJ cZ ad S9 h0 (q := w14) (sTx_ok (by decide +kernel)) eS15) (cwV 1 hts (gmV qM_108 qM_109 qM_110 qM_35 qM_57) rfl rfl rfl (by decide +kernel) ⟨Nat.le_of_ble_eq_true rfl, Nat.le_of_ble_eq_true rfl⟩) rfl hl.1 rfl (lv_room (Nat.le_of_ble_eq_true rfl)) dX12_readLine_35 ⟨Nat.zero_le _, Nat.zero_le _⟩ (xT1.blind) (xT1.go hT hA0 hA G ow14) (fun q16 S17 H locs hq G => ?_)
      obtain ⟨hq1, hq2⟩ := hq
      rw [hq2] at G
      refine lv_to hq1 ?_
      clear hq1 hq2 eS15
      refine lv_if_eq (tgt := 48) hx hb dX12_readLine_38 (by decide) (fun c19 => ?_) (fun c19 => ?_)
      · have h := oif_pos c19 h
        refine lv_aload_n hx hb dX12_readLine_48 rfl (lv_at hl 0 rfl) ?_
        obtain ⟨w20, hw20, ow20⟩ := hT.1 ("AcousticCameraModel", 186, "clock") (List.mem_of_getElem? (i := 28) rfl)
        refine va_ldcS hx hb hown hw20 dX12_readLine_49 ?_
        obtain ⟨r24, S21, eS21, h⟩ := obind2_some h
        refine m_calliX (As := [.ref w20]) (rest := []) E G hA hR hml (tr_isWord l D cI cJ cZ ad S15 h0 (q := w20) (sTx_ok (by decide +kernel)) eS21) (cwV 1 hts (gmV qM_108 qM_109 qM_110 qM_35 qM_57) rfl rfl rfl (by decide +kernel) ⟨Nat.le_of_ble_eq_true rfl, Nat.le_of_ble_eq_true rfl⟩) rfl hl.1 rfl (lv_room (Nat.le_of_ble_eq_true rfl)) dX12_readLine_51 ⟨Nat.zero_le _, Nat.zero_le _⟩ (xT1.blind) (xT1.go hT hA0 hA G ow20) (fun q22 S23 H locs hq G => ?_)
        obtain ⟨hq1, hq2⟩ := hq
        rw [hq2] at G
        refine lv_to hq1 ?_
        clear hq1 hq2 eS21
        refine lv_if_eq (tgt := 64) hx hb dX12_readLine_54 (by decide) (fun c25 => ?_) (fun c25 => ?_)
        · have h := oif_pos c25 h
          refine lv_aload_n hx hb dX12_readLine_64 rfl (lv_at hl 0 rfl) ?_
          obtain ⟨w26, hw26, ow26⟩ := hT.1 ("AcousticCameraModel", 191, "zone") (List.mem_of_getElem? (i := 29) rfl)
          refine va_ldcS hx hb hown hw26 dX12_readLine_65 ?_
          obtain ⟨r30, S27, eS27, h⟩ := obind2_some h
          refine m_calliX (As := [.ref w26]) (rest := []) E G hA hR hml (tr_isWord l D cI cJ cZ ad S21 h0 (q := w26) (sTx_ok (by decide +kernel)) eS27) (cwV 1 hts (gmV qM_108 qM_109 qM_110 qM_35 qM_57) rfl rfl rfl (by decide +kernel) ⟨Nat.le_of_ble_eq_true rfl, Nat.le_of_ble_eq_true rfl⟩) rfl hl.1 rfl (lv_room (Nat.le_of_ble_eq_true rfl)) dX12_readLine_67 ⟨Nat.zero_le _, Nat.zero_le _⟩ (xT1.blind) (xT1.go hT hA0 hA G ow26) (fun q28 S29 H locs hq G => ?_)
          obtain ⟨hq1, hq2⟩ := hq
          rw [hq2] at G
          refine lv_to hq1 ?_
          clear hq1 hq2 eS27
          refine lv_if_eq (tgt := 80) hx hb dX12_readLine_70 (by decide) (fun c31 => ?_) (fun c31 => ?_)
          · have h := oif_pos c31 h
            refine lv_aload_n hx hb dX12_readLine_80 rfl (lv_at hl 0 rfl) ?_
            obtain ⟨w32, hw32, ow32⟩ := hT.1 ("AcousticCameraModel", 196, "shade") (List.mem_of_getElem? (i := 30) rfl)
            refine va_ldcS hx hb hown hw32 dX12_readLine_81 ?_
            obtain ⟨r36, S33, eS33, h⟩ := obind2_some h
            refine m_calliX (As := [.ref w32]) (rest := []) E G hA hR hml (tr_isWord l D cI cJ cZ ad S27 h0 (q := w32) (sTx_ok (by decide +kernel)) eS33) (cwV 1 hts (gmV qM_108 qM_109 qM_110 qM_35 qM_57) rfl rfl rfl (by decide +kernel) ⟨Nat.le_of_ble_eq_true rfl, Nat.le_of_ble_eq_true rfl⟩) rfl hl.1 rfl (lv_room (Nat.le_of_ble_eq_true rfl)) dX12_readLine_83 ⟨Nat.zero_le _, Nat.zero_le _⟩ (xT1.blind) (xT1.go hT hA0 hA G ow32) (fun q34 S35 H locs hq G => ?_)
            obtain ⟨hq1, hq2⟩ := hq
            rw [hq2] at G
            refine lv_to hq1 ?_
            clear hq1 hq2 eS33
            refine lv_if_eq (tgt := 96) hx hb dX12_readLine_86 (by decide) (fun c37 => ?_) (fun c37 => ?_)
            · have h := oif_pos c37 h
              refine lv_aload_n hx hb dX12_readLine_96 rfl (lv_at hl 0 rfl) ?_
              obtain ⟨w38, hw38, ow38⟩ := hT.1 ("AcousticCameraModel", 201, "off") (List.mem_of_getElem? (i := 31) rfl)
              refine va_ldcS hx hb hown hw38 dX12_readLine_97 ?_
              obtain ⟨r42, S39, eS39, h⟩ := obind2_some h
              refine m_calliX (As := [.ref w38]) (rest := []) E G hA hR hml (tr_isWord l D cI cJ cZ ad S33 h0 (q := w38) (sTx_ok (by decide +kernel)) eS39) (cwV 1 hts (gmV qM_108 qM_109 qM_110 qM_35 qM_57) rfl rfl rfl (by decide +kernel) ⟨Nat.le_of_ble_eq_true rfl, Nat.le_of_ble_eq_true rfl⟩) rfl hl.1 rfl (lv_room (Nat.le_of_ble_eq_true rfl)) dX12_readLine_99 ⟨Nat.zero_le _, Nat.zero_le _⟩ (xT1.blind) (xT1.go hT hA0 hA G ow38) (fun q40 S41 H locs hq G => ?_)
              obtain ⟨hq1, hq2⟩ := hq
              rw [hq2] at G
              refine lv_to hq1 ?_
              clear hq1 hq2 eS39
              refine lv_if_eq (tgt := 112) hx hb dX12_readLine_102 (by decide) (fun c43 => ?_) (fun c43 => ?_)
              · have h := oif_pos c43 h
                refine lv_aload_n hx hb dX12_readLine_112 rfl (lv_at hl 0 rfl) ?_
                obtain ⟨w44, hw44, ow44⟩ := hT.1 ("AcousticCameraModel", 206, "mic") (List.mem_of_getElem? (i := 32) rfl)
                refine va_ldcS hx hb hown hw44 dX12_readLine_113 ?_
                obtain ⟨r48, S45, eS45, h⟩ := obind2_some h
                refine m_calliX (As := [.ref w44]) (rest := []) E G hA hR hml (tr_isWord l D cI cJ cZ ad S39 h0 (q := w44) (sTx_ok (by decide +kernel)) eS45) (cwV 1 hts (gmV qM_108 qM_109 qM_110 qM_35 qM_57) rfl rfl rfl (by decide +kernel) ⟨Nat.le_of_ble_eq_true rfl, Nat.le_of_ble_eq_true rfl⟩) rfl hl.1 rfl (lv_room (Nat.le_of_ble_eq_true rfl)) dX12_readLine_115 ⟨Nat.zero_le _, Nat.zero_le _⟩ (xT1.blind) (xT1.go hT hA0 hA G ow44) (fun q46 S47 H locs hq G => ?_)
                obtain ⟨hq1, hq2⟩ := hq
                rw [hq2] at G
                refine lv_to hq1 ?_
                clear hq1 hq2 eS45
                refine lv_if_eq (tgt := 128) hx hb dX12_readLine_118 (by decide) (fun c49 => ?_) (fun c49 => ?_)
                · have h := oif_pos c49 h
                  refine lv_aload_n hx hb dX12_readLine_128 rfl (lv_at hl 0 rfl) ?_
                  obtain ⟨w50, hw50, ow50⟩ := hT.1 ("AcousticCameraModel", 211, "map") (List.mem_of_getElem? (i := 33) rfl)
                  refine va_ldcS hx hb hown hw50 dX12_readLine_129 ?_
                  obtain ⟨r54, S51, eS51, h⟩ := obind2_some h
                  refine m_calliX (As := [.ref w50]) (rest := []) E G hA hR hml (tr_isWord l D cI cJ cZ ad S45 h0 (q := w50) (sTx_ok (by decide +kernel)) eS51) (cwV 1 hts (gmV qM_108 qM_109 qM_110 qM_35 qM_57) rfl rfl rfl (by decide +kernel) ⟨Nat.le_of_ble_eq_true rfl, Nat.le_of_ble_eq_true rfl⟩) rfl hl.1 rfl (lv_room (Nat.le_of_ble_eq_true rfl)) dX12_readLine_131 ⟨Nat.zero_le _, Nat.zero_le _⟩ (xT1.blind) (xT1.go hT hA0 hA G ow50) (fun q52 S53 H locs hq G => ?_)
                  obtain ⟨hq1, hq2⟩ := hq
                  rw [hq2] at G
                  refine lv_to hq1 ?_
                  clear hq1 hq2 eS51
                  refine lv_if_eq (tgt := 144) hx hb dX12_readLine_134 (by decide) (fun c55 => ?_) (fun c55 => ?_)
                  · have h := oif_pos c55 h
                    refine lv_aload_n hx hb dX12_readLine_144 rfl (lv_at hl 0 rfl) ?_
                    obtain ⟨w56, hw56, ow56⟩ := hT.1 ("AcousticCameraModel", 216, "source") (List.mem_of_getElem? (i := 34) rfl)
                    refine va_ldcS hx hb hown hw56 dX12_readLine_145 ?_
                    obtain ⟨r60, S57, eS57, h⟩ := obind2_some h
                    refine m_calliX (As := [.ref w56]) (rest := []) E G hA hR hml (tr_isWord l D cI cJ cZ ad S51 h0 (q := w56) (sTx_ok (by decide +kernel)) eS57) (cwV 1 hts (gmV qM_108 qM_109 qM_110 qM_35 qM_57) rfl rfl rfl (by decide +kernel) ⟨Nat.le_of_ble_eq_true rfl, Nat.le_of_ble_eq_true rfl⟩) rfl hl.1 rfl (lv_room (Nat.le_of_ble_eq_true rfl)) dX12_readLine_147 ⟨Nat.zero_le _, Nat.zero_le _⟩ (xT1.blind) (xT1.go hT hA0 hA G ow56) (fun q58 S59 H locs hq G => ?_)
                    obtain ⟨hq1, hq2⟩ := hq
                    rw [hq2] at G
                    refine lv_to hq1 ?_
                    clear hq1 hq2 eS57
                    refine lv_if_eq (tgt := 160) hx hb dX12_readLine_150 (by decide) (fun c61 => ?_) (fun c61 => ?_)
                    · have h := oif_pos c61 h
                      refine lv_aload_n hx hb dX12_readLine_160 rfl (lv_at hl 0 rfl) ?_
                      refine lv_iconst (v := 1) hx hb dX12_readLine_161 (by decide) ?_
                      obtain ⟨S62, eS62, h⟩ := obind_some h
                      refine m_callv (As := [.int 1]) (rest := []) E G hA hR hml (tr_faults l D cI cJ cZ ad S57 1 eS62) (cwV 1 hts (gmV qM_118 qM_119 qM_120 qM_35 qM_42) rfl rfl rfl (by decide +kernel) ⟨Nat.le_of_ble_eq_true rfl, Nat.le_of_ble_eq_true rfl⟩) rfl hl.1 rfl (lv_room (Nat.le_of_ble_eq_true rfl)) dX12_readLine_162 ⟨Nat.zero_le _, Nat.zero_le _⟩ (fun S64 H locs hq G => ?_)
                      rw [hq] at G
                      clear hq eS62
                      have hl := lv_sub hl [] rfl
                      exact tr_readLine_b165 E hA hR hml hA0 hT (fun H locs ls G => W.vret hx hb hr (fun t ht hW => ⟨⟨S1, rfl, rfl, ⟨by rw [ht]; exact G.1, va_K.moved hW.alike hK, G.2.1⟩⟩, G.2.2.F ht⟩) G.2.2.2.2 dX12_readLine_165) _ _ _ _ h G hl
                    · have h := oif_neg c61 h
                      refine lv_aload_n hx hb dX12_readLine_153 rfl (lv_at hl 0 rfl) ?_
                      obtain ⟨S65, eS65, h⟩ := obind_some h
                      refine m_callvX (As := []) (rest := []) E G hA hR hml (tr_readSource l D cI cJ cZ ad S57 h0 eS65) (cwV 0 hts (gmV qM_182 qM_183 qM_184 qM_35 qM_146) rfl rfl rfl (by decide +kernel) ⟨Nat.le_of_ble_eq_true rfl, Nat.le_of_ble_eq_true rfl⟩) rfl hl.1 rfl (lv_room (Nat.le_of_ble_eq_true rfl)) dX12_readLine_154 ⟨Nat.zero_le _, Nat.zero_le _⟩ (xT0.blind) (xT0.go hT hA0 hA G) (fun S67 H locs hq G => ?_)
                      rw [hq] at G
                      clear hq eS65
                      refine lv_goto (tgt := 165) hx hb dX12_readLine_157 (by decide) ?_
                      have hl := lv_sub hl [] rfl
                      exact tr_readLine_b165 E hA hR hml hA0 hT (fun H locs ls G => W.vret hx hb hr (fun t ht hW => ⟨⟨S1, rfl, rfl, ⟨by rw [ht]; exact G.1, va_K.moved hW.alike hK, G.2.1⟩⟩, G.2.2.F ht⟩) G.2.2.2.2 dX12_readLine_165) _ _ _ _ h G hl
                  · have h := oif_neg c55 h
                    refine lv_aload_n hx hb dX12_readLine_137 rfl (lv_at hl 0 rfl) ?_
                    obtain ⟨S68, eS68, h⟩ := obind_some h
                    refine m_callv (As := []) (rest := []) E G hA hR hml (tr_readMap l D cI cJ cZ ad S51 eS68) (cwV 0 hts (gmV qM_179 qM_180 qM_181 qM_35 qM_145) rfl rfl rfl (by decide +kernel) ⟨Nat.le_of_ble_eq_true rfl, Nat.le_of_ble_eq_true rfl⟩) rfl hl.1 rfl (lv_room (Nat.le_of_ble_eq_true rfl)) dX12_readLine_138 ⟨Nat.zero_le _, Nat.zero_le _⟩ (fun S70 H locs hq G => ?_)
                    rw [hq] at G
                    clear hq eS68
                    refine lv_goto (tgt := 165) hx hb dX12_readLine_141 (by decide) ?_
                    have hl := lv_sub hl [] rfl
                    exact tr_readLine_b165 E hA hR hml hA0 hT (fun H locs ls G => W.vret hx hb hr (fun t ht hW => ⟨⟨S1, rfl, rfl, ⟨by rw [ht]; exact G.1, va_K.moved hW.alike hK, G.2.1⟩⟩, G.2.2.F ht⟩) G.2.2.2.2 dX12_readLine_165) _ _ _ _ h G hl
                · have h := oif_neg c49 h
                  refine lv_aload_n hx hb dX12_readLine_121 rfl (lv_at hl 0 rfl) ?_
                  obtain ⟨S71, eS71, h⟩ := obind_some h
                  refine m_callv (As := []) (rest := []) E G hA hR hml (tr_readMic l D cI cJ cZ ad S45 eS71) (cwV 0 hts (gmV qM_176 qM_177 qM_178 qM_35 qM_141) rfl rfl rfl (by decide +kernel) ⟨Nat.le_of_ble_eq_true rfl, Nat.le_of_ble_eq_true rfl⟩) rfl hl.1 rfl (lv_room (Nat.le_of_ble_eq_true rfl)) dX12_readLine_122 ⟨Nat.zero_le _, Nat.zero_le _⟩ (fun S73 H locs hq G => ?_)
                  rw [hq] at G
                  clear hq eS71
                  refine lv_goto (tgt := 165) hx hb dX12_readLine_125 (by decide) ?_
                  have hl := lv_sub hl [] rfl
                  exact tr_readLine_b165 E hA hR hml hA0 hT (fun H locs ls G => W.vret hx hb hr (fun t ht hW => ⟨⟨S1, rfl, rfl, ⟨by rw [ht]; exact G.1, va_K.moved hW.alike hK, G.2.1⟩⟩, G.2.2.F ht⟩) G.2.2.2.2 dX12_readLine_165) _ _ _ _ h G hl
              · have h := oif_neg c43 h
                refine lv_aload_n hx hb dX12_readLine_105 rfl (lv_at hl 0 rfl) ?_
                obtain ⟨S74, eS74, h⟩ := obind_some h
                refine m_callv (As := []) (rest := []) E G hA hR hml (tr_readOff l D cI cJ cZ ad S39 eS74) (cwV 0 hts (gmV qM_173 qM_174 qM_175 qM_35 qM_152) rfl rfl rfl (by decide +kernel) ⟨Nat.le_of_ble_eq_true rfl, Nat.le_of_ble_eq_true rfl⟩) rfl hl.1 rfl (lv_room (Nat.le_of_ble_eq_true rfl)) dX12_readLine_106 ⟨Nat.zero_le _, Nat.zero_le _⟩ (fun S76 H locs hq G => ?_)
                rw [hq] at G
                clear hq eS74
                refine lv_goto (tgt := 165) hx hb dX12_readLine_109 (by decide) ?_
                have hl := lv_sub hl [] rfl
                exact tr_readLine_b165 E hA hR hml hA0 hT (fun H locs ls G => W.vret hx hb hr (fun t ht hW => ⟨⟨S1, rfl, rfl, ⟨by rw [ht]; exact G.1, va_K.moved hW.alike hK, G.2.1⟩⟩, G.2.2.F ht⟩) G.2.2.2.2 dX12_readLine_165) _ _ _ _ h G hl
            · have h := oif_neg c37 h
              refine lv_aload_n hx hb dX12_readLine_89 rfl (lv_at hl 0 rfl) ?_
              obtain ⟨S77, eS77, h⟩ := obind_some h
              refine m_callv (As := []) (rest := []) E G hA hR hml (tr_readShade l D cI cJ cZ ad S33 eS77) (cwV 0 hts (gmV qM_170 qM_171 qM_172 qM_35 qM_151) rfl rfl rfl (by decide +kernel) ⟨Nat.le_of_ble_eq_true rfl, Nat.le_of_ble_eq_true rfl⟩) rfl hl.1 rfl (lv_room (Nat.le_of_ble_eq_true rfl)) dX12_readLine_90 ⟨Nat.zero_le _, Nat.zero_le _⟩ (fun S79 H locs hq G => ?_)
              rw [hq] at G
              clear hq eS77
              refine lv_goto (tgt := 165) hx hb dX12_readLine_93 (by decide) ?_
              have hl := lv_sub hl [] rfl
              exact tr_readLine_b165 E hA hR hml hA0 hT (fun H locs ls G => W.vret hx hb hr (fun t ht hW => ⟨⟨S1, rfl, rfl, ⟨by rw [ht]; exact G.1, va_K.moved hW.alike hK, G.2.1⟩⟩, G.2.2.F ht⟩) G.2.2.2.2 dX12_readLine_165) _ _ _ _ h G hl
          · have h := oif_neg c31 h
            refine lv_aload_n hx hb dX12_readLine_73 rfl (lv_at hl 0 rfl) ?_
            obtain ⟨S80, eS80, h⟩ := obind_some h
            refine m_callv (As := []) (rest := []) E G hA hR hml (tr_readZone l D cI cJ cZ ad S27 eS80) (cwV 0 hts (gmV qM_167 qM_168 qM_169 qM_35 qM_153) rfl rfl rfl (by decide +kernel) ⟨Nat.le_of_ble_eq_true rfl, Nat.le_of_ble_eq_true rfl⟩) rfl hl.1 rfl (lv_room (Nat.le_of_ble_eq_true rfl)) dX12_readLine_74 ⟨Nat.zero_le _, Nat.zero_le _⟩ (fun S82 H locs hq G => ?_)
            rw [hq] at G
            clear hq eS80
            refine lv_goto (tgt := 165) hx hb dX12_readLine_77 (by decide) ?_
            have hl := lv_sub hl [] rfl
            exact tr_readLine_b165 E hA hR hml hA0 hT (fun H locs ls G => W.vret hx hb hr (fun t ht hW => ⟨⟨S1, rfl, rfl, ⟨by rw [ht]; exact G.1, va_K.moved hW.alike hK, G.2.1⟩⟩, G.2.2.F ht⟩) G.2.2.2.2 dX12_readLine_165) _ _ _ _ h G hl
        · have h := oif_neg c25 h
          refine lv_aload_n hx hb dX12_readLine_57 rfl (lv_at hl 0 rfl) ?_
          obtain ⟨S83, eS83, h⟩ := obind_some h
          refine m_callv (As := []) (rest := []) E G hA hR hml (tr_readClock l D cI cJ cZ ad S21 eS83) (cwV 0 hts (gmV qM_164 qM_165 qM_166 qM_35 qM_150) rfl rfl rfl (by decide +kernel) ⟨Nat.le_of_ble_eq_true rfl, Nat.le_of_ble_eq_true rfl⟩) rfl hl.1 rfl (lv_room (Nat.le_of_ble_eq_true rfl)) dX12_readLine_58 ⟨Nat.zero_le _, Nat.zero_le _⟩ (fun S85 H locs hq G => ?_)
          rw [hq] at G
          clear hq eS83
          refine lv_goto (tgt := 165) hx hb dX12_readLine_61 (by decide) ?_
          have hl := lv_sub hl [] rfl
          exact tr_readLine_b165 E hA hR hml hA0 hT (fun H locs ls G => W.vret hx hb hr (fun t ht hW => ⟨⟨S1, rfl, rfl, ⟨by rw [ht]; exact G.1, va_K.moved hW.alike hK, G.2.1⟩⟩, G.2.2.F ht⟩) G.2.2.2.2 dX12_readLine_165) _ _ _ _ h G hl
      · have h := oif_neg c19 h
        refine lv_aload_n hx hb dX12_readLine_41 rfl (lv_at hl 0 rfl) ?_
        obtain ⟨S86, eS86, h⟩ := obind_some h
        refine m_callv (As := []) (rest := []) E G hA hR hml (tr_readFilter l D cI cJ cZ ad S15 eS86) (cwV 0 hts (gmV qM_161 qM_162 qM_163 qM_35 qM_149) rfl rfl rfl (by decide +kernel) ⟨Nat.le_of_ble_eq_true rfl, Nat.le_of_ble_eq_true rfl⟩) rfl hl.1 rfl (lv_room (Nat.le_of_ble_eq_true rfl)) dX12_readLine_42 ⟨Nat.zero_le _, Nat.zero_le _⟩ (fun S88 H locs hq G => ?_)
        rw [hq] at G
        clear hq eS86
        refine lv_goto (tgt := 165) hx hb dX12_readLine_45 (by decide) ?_
        have hl := lv_sub hl [] rfl
        exact tr_readLine_b165 E hA hR hml hA0 hT (fun H locs ls G => W.vret hx hb hr (fun t ht hW => ⟨⟨S1, rfl, rfl, ⟨by rw [ht]; exact G.1, va_K.moved hW.alike hK, G.2.1⟩⟩, G.2.2.F ht⟩) G.2.2.2.2 dX12_readLine_165) _ _ _ _ h G hl
    · have h := oif_neg c13 h
      refine lv_aload_n hx hb dX12_readLine_25 rfl (lv_at hl 0 rfl) ?_
      obtain ⟨S89, eS89, h⟩ := obind_some h
      refine m_callv (As := []) (rest := []) E G hA hR hml (tr_readFade l D cI cJ cZ ad S9 eS89) (cwV 0 hts (gmV qM_158 qM_159 qM_160 qM_35 qM_148) rfl rfl rfl (by decide +kernel) ⟨Nat.le_of_ble_eq_true rfl, Nat.le_of_ble_eq_true rfl⟩) rfl hl.1 rfl (lv_room (Nat.le_of_ble_eq_true rfl)) dX12_readLine_26 ⟨Nat.zero_le _, Nat.zero_le _⟩ (fun S91 H locs hq G => ?_)
      rw [hq] at G
      clear hq eS89
      refine lv_goto (tgt := 165) hx hb dX12_readLine_29 (by decide) ?_
      have hl := lv_sub hl [] rfl
      exact tr_readLine_b165 E hA hR hml hA0 hT (fun H locs ls G => W.vret hx hb hr (fun t ht hW => ⟨⟨S1, rfl, rfl, ⟨by rw [ht]; exact G.1, va_K.moved hW.alike hK, G.2.1⟩⟩, G.2.2.F ht⟩) G.2.2.2.2 dX12_readLine_165) _ _ _ _ h G hl
  · have h := oif_neg c7 h
    refine lv_aload_n hx hb dX12_readLine_9 rfl (lv_at hl 0 rfl) ?_
    obtain ⟨S92, eS92, h⟩ := obind_some h
    refine m_callv (As := []) (rest := []) E G hA hR hml (tr_readWall l D cI cJ cZ ad S3 eS92) (cwV 0 hts (gmV qM_155 qM_156 qM_157 qM_35 qM_147) rfl rfl rfl (by decide +kernel) ⟨Nat.le_of_ble_eq_true rfl, Nat.le_of_ble_eq_true rfl⟩) rfl hl.1 rfl (lv_room (Nat.le_of_ble_eq_true rfl)) dX12_readLine_10 ⟨Nat.zero_le _, Nat.zero_le _⟩ (fun S94 H locs hq G => ?_)
    rw [hq] at G
    clear hq eS92
    refine lv_goto (tgt := 165) hx hb dX12_readLine_13 (by decide) ?_
    have hl := lv_sub hl [] rfl
    exact tr_readLine_b165 E hA hR hml hA0 hT (fun H locs ls G => W.vret hx hb hr (fun t ht hW => ⟨⟨S1, rfl, rfl, ⟨by rw [ht]; exact G.1, va_K.moved hW.alike hK, G.2.1⟩⟩, G.2.2.F ht⟩) G.2.2.2.2 dX12_readLine_165) _ _ _ _ h G hl
def fr_readText_b116  (S : MS)  : Option (MS) := some S
set_option maxHeartbeats 4000000 in
set_option maxRecDepth 100000 in
theorem tr_readText_b116 {p : Program} {l : Launch} {e : Env} {s : State} {m : MethodId} {args : Array Value} {below : List Frame} {meth : Method} {c : Code} {Q : State → Prop} {D : va_G} {A : Nat → Prop} {cI cJ cZ : ClassId} {ad : Nat → Nat} {S1 : MS} (E : mE p c cX12_readText s m args (Cond.code yX12_readText cX12_readText 2 none :: wsM) D cI cJ cZ) (hA : ∀ q : Nat, s.heap.size ≤ q → A q) (hR : sR s) (hml : c.maxLocals = 2) {h0 : Nat} (hA0 : ∀ a : Nat, A a → h0 ≤ a) (hT : sAll h0 s) (kr116 : ∀ (H : Heap) (locs : List Loc) (ls : Array Slot), mG D cI cJ cZ ad A s.heap H locs S1 → W p l e { frames := 10, cells := 0, slots := 0, locals := 195 } s m args below meth c H locs 0 0 Q (F0 m 116 ls [])) : ∀ (S : MS) (H : Heap) (locs : List Loc) (ls : Array Slot), fr_readText_b116 S = some S1 → mG D cI cJ cZ ad A s.heap H locs S → lv_has ls 2 [] → W p l e { frames := 10, cells := 0, slots := 0, locals := 195 } s m args below meth c H locs 0 0 Q (F0 m 116 ls []) := by
  have hx := E.1
  have hb := E.2.1
  have hts := E.2.2.1
  have hown := E.2.2.2.1
  have hK := E.2.2.2.2.1
  intro S H locs ls h G hl
  unfold fr_readText_b116 at h
  rw [osome1 h] at G
  exact kr116 _ _ _ G
def fr_readText_b111  (S : MS)  : Option (MS) := obind (fr_faults S 5) fun S2 => fr_readText_b116 S2
set_option maxHeartbeats 4000000 in
set_option maxRecDepth 100000 in
theorem tr_readText_b111 {p : Program} {l : Launch} {e : Env} {s : State} {m : MethodId} {args : Array Value} {below : List Frame} {meth : Method} {c : Code} {Q : State → Prop} {D : va_G} {A : Nat → Prop} {cI cJ cZ : ClassId} {ad : Nat → Nat} {S1 : MS} (E : mE p c cX12_readText s m args (Cond.code yX12_readText cX12_readText 2 none :: wsM) D cI cJ cZ) (hA : ∀ q : Nat, s.heap.size ≤ q → A q) (hR : sR s) (hml : c.maxLocals = 2) {h0 : Nat} (hA0 : ∀ a : Nat, A a → h0 ≤ a) (hT : sAll h0 s) (kr116 : ∀ (H : Heap) (locs : List Loc) (ls : Array Slot), mG D cI cJ cZ ad A s.heap H locs S1 → W p l e { frames := 10, cells := 0, slots := 0, locals := 195 } s m args below meth c H locs 0 0 Q (F0 m 116 ls [])) : ∀ (S : MS) (H : Heap) (locs : List Loc) (ls : Array Slot), fr_readText_b111 S = some S1 → mG D cI cJ cZ ad A s.heap H locs S → lv_has ls 2 [(0, .ref (ad 0))] → W p l e { frames := 10, cells := 0, slots := 0, locals := 195 } s m args below meth c H locs 0 0 Q (F0 m 111 ls []) := by
  have hx := E.1
  have hb := E.2.1
  have hts := E.2.2.1
  have hown := E.2.2.2.1
  have hK := E.2.2.2.2.1
  intro S H locs ls h G hl
  unfold fr_readText_b111 at h
  refine lv_aload_n hx hb dX12_readText_111 rfl (lv_at hl 0 rfl) ?_
  refine lv_iconst (v := 5) hx hb dX12_readText_112 (by decide) ?_
  obtain ⟨S2, eS2, h⟩ := obind_some h
  refine m_callv (As := [.int 5]) (rest := []) E G hA hR hml (tr_faults l D cI cJ cZ ad S 5 eS2) (cwV 1 hts (gmV qM_118 qM_119 qM_120 qM_35 qM_42) rfl rfl rfl (by decide +kernel) ⟨Nat.le_of_ble_eq_true rfl, Nat.le_of_ble_eq_true rfl⟩) rfl hl.1 rfl (lv_room (Nat.le_of_ble_eq_true rfl)) dX12_readText_113 ⟨Nat.zero_le _, Nat.zero_le _⟩ (fun S4 H locs hq G => ?_)
  rw [hq] at G
  clear hq eS2
  have hl := lv_sub hl [] rfl
  exact tr_readText_b116 E hA hR hml hA0 hT kr116 _ _ _ _ h G hl
def fr_readText_b92  (S : MS)  : Option (MS) := elet (S.2.1 11 4) fun v2 => if v2 = 0 then (fr_readText_b111 S) else (elet (S.2.1 11 8) fun v4 => if v4 = 0 then (fr_readText_b111 S) else (fr_readText_b116 S))
set_option maxHeartbeats 4000000 in
set_option maxRecDepth 100000 in
theorem tr_readText_b92 {p : Program} {l : Launch} {e : Env} {s : State} {m : MethodId} {args : Array Value} {below : List Frame} {meth : Method} {c : Code} {Q : State → Prop} {D : va_G} {A : Nat → Prop} {cI cJ cZ : ClassId} {ad : Nat → Nat} {S1 : MS} (E : mE p c cX12_readText s m args (Cond.code yX12_readText cX12_readText 2 none :: wsM) D cI cJ cZ) (hA : ∀ q : Nat, s.heap.size ≤ q → A q) (hR : sR s) (hml : c.maxLocals = 2) {h0 : Nat} (hA0 : ∀ a : Nat, A a → h0 ≤ a) (hT : sAll h0 s) (kr116 : ∀ (H : Heap) (locs : List Loc) (ls : Array Slot), mG D cI cJ cZ ad A s.heap H locs S1 → W p l e { frames := 10, cells := 0, slots := 0, locals := 195 } s m args below meth c H locs 0 0 Q (F0 m 116 ls [])) : ∀ (S : MS) (H : Heap) (locs : List Loc) (ls : Array Slot), fr_readText_b92 S = some S1 → mG D cI cJ cZ ad A s.heap H locs S → lv_has ls 2 [(0, .ref (ad 0))] → W p l e { frames := 10, cells := 0, slots := 0, locals := 195 } s m args below meth c H locs 0 0 Q (F0 m 92 ls []) := by
  have hx := E.1
  have hb := E.2.1
  have hts := E.2.2.1
  have hown := E.2.2.2.1
  have hK := E.2.2.2.2.1
  intro S H locs ls h G hl
  unfold fr_readText_b92 at h
  refine lv_aload_n hx hb dX12_readText_92 rfl (lv_at hl 0 rfl) ?_
  refine m_get E G 11 (v := .ref (ad 11)) (by decide) (.tail _ qM_8) rfl dX12_readText_93 rfl ?_
  refine lv_iconst (v := 4) hx hb dX12_readText_96 (by decide) ?_
  refine m_iald E G 11 3 (n := 131) (k := 4) rfl rfl (by decide) (by decide) dX12_readText_97 ?_
  refine lv_topi (fun v2 ev2 => ?_)
  have h := elet_at ev2 h
  clear ev2
  refine lv_if_eq (tgt := 111) hx hb dX12_readText_98 (by decide) (fun c3 => ?_) (fun c3 => ?_)
  · have h := oif_pos c3 h
    have hl := lv_sub hl [0] rfl
    exact tr_readText_b111 E hA hR hml hA0 hT kr116 _ _ _ _ h G hl
  · have h := oif_neg c3 h
    refine lv_aload_n hx hb dX12_readText_101 rfl (lv_at hl 0 rfl) ?_
    refine m_get E G 11 (v := .ref (ad 11)) (by decide) (.tail _ qM_8) rfl dX12_readText_102 rfl ?_
    refine lv_bipush (v := 8) hx hb dX12_readText_105 (by decide) ?_
    refine m_iald E G 11 3 (n := 131) (k := 8) rfl rfl (by decide) (by decide) dX12_readText_107 ?_
    refine lv_topi (fun v4 ev4 => ?_)
    have h := elet_at ev4 h
    clear ev4
    refine lv_if_ne (tgt := 116) hx hb dX12_readText_108 (by decide) (fun c5 => ?_) (fun c5 => ?_)
    · have h := oif_neg c5 h
      have hl := lv_sub hl [] rfl
      exact tr_readText_b116 E hA hR hml hA0 hT kr116 _ _ _ _ h G hl
    · have h := oif_pos c5 h
      have hl := lv_sub hl [0] rfl
      exact tr_readText_b111 E hA hR hml hA0 hT kr116 _ _ _ _ h G hl
def fr_readText_b52  : Nat → MS → Option (MS)
  | 0, _ => none
  | n + 1, S => obind2 (fr_isSignHere S 59) fun r5 S2 => if r5 = 0 then (elet (S2.1 5) fun v7 => if v7 = 0 then (elet (S2.1 7) fun v9 => if v9 = 1 then (fr_readText_b92 S2) else (obind (fr_faults S2 1) fun S11 => fr_readText_b92 S11)) else (fr_readText_b92 S2)) else (obind (fr_nextToken S2) fun S14 => obind (fr_readLine S14) fun S17 => fr_readText_b52 n S17)
set_option maxHeartbeats 4000000 in
set_option maxRecDepth 100000 in
theorem tr_readText_b52 {p : Program} {l : Launch} {e : Env} {s : State} {m : MethodId} {args : Array Value} {below : List Frame} {meth : Method} {c : Code} {Q : State → Prop} {D : va_G} {A : Nat → Prop} {cI cJ cZ : ClassId} {ad : Nat → Nat} {S1 : MS} (E : mE p c cX12_readText s m args (Cond.code yX12_readText cX12_readText 2 none :: wsM) D cI cJ cZ) (hA : ∀ q : Nat, s.heap.size ≤ q → A q) (hR : sR s) (hml : c.maxLocals = 2) {h0 : Nat} (hA0 : ∀ a : Nat, A a → h0 ≤ a) (hT : sAll h0 s) (kr116 : ∀ (H : Heap) (locs : List Loc) (ls : Array Slot), mG D cI cJ cZ ad A s.heap H locs S1 → W p l e { frames := 10, cells := 0, slots := 0, locals := 195 } s m args below meth c H locs 0 0 Q (F0 m 116 ls [])) : ∀ n : Nat, ∀ (S : MS) (H : Heap) (locs : List Loc) (ls : Array Slot), fr_readText_b52 n S = some S1 → mG D cI cJ cZ ad A s.heap H locs S → lv_has ls 2 [(0, .ref (ad 0))] → W p l e { frames := 10, cells := 0, slots := 0, locals := 195 } s m args below meth c H locs 0 0 Q (F0 m 52 ls []) := by
  have hx := E.1
  have hb := E.2.1
  have hts := E.2.2.1
  have hown := E.2.2.2.1
  have hK := E.2.2.2.2.1
  intro n
  induction n with
  | zero =>
    intro S H locs ls h
    have h : (none : Option (MS)) = some S1 := h
    cases h
  | succ n ih =>
    intro S H locs ls h G hl
    unfold fr_readText_b52 at h
    refine lv_aload_n hx hb dX12_readText_52 rfl (lv_at hl 0 rfl) ?_
    refine lv_bipush (v := 59) hx hb dX12_readText_53 (by decide) ?_
    obtain ⟨r5, S2, eS2, h⟩ := obind2_some h
    refine m_calli (As := [.int 59]) (rest := []) E G hA hR hml (tr_isSignHere l D cI cJ cZ ad S 59 eS2) (cwV 1 hts (gmV qM_134 qM_135 qM_136 qM_35 qM_56) rfl rfl rfl (by decide +kernel) ⟨Nat.le_of_ble_eq_true rfl, Nat.le_of_ble_eq_true rfl⟩) rfl hl.1 rfl (lv_room (Nat.le_of_ble_eq_true rfl)) dX12_readText_55 ⟨Nat.zero_le _, Nat.zero_le _⟩ (fun q3 S4 H locs hq G => ?_)
    obtain ⟨hq1, hq2⟩ := hq
    rw [hq2] at G
    refine lv_to hq1 ?_
    clear hq1 hq2 eS2
    refine lv_if_eq (tgt := 72) hx hb dX12_readText_58 (by decide) (fun c6 => ?_) (fun c6 => ?_)
    · have h := oif_pos c6 h
      refine lv_aload_n hx hb dX12_readText_72 rfl (lv_at hl 0 rfl) ?_
      refine m_get E G 5 (v := .int (S2.1 5)) (by decide) (.tail _ qM_38) rfl dX12_readText_73 rfl ?_
      refine lv_topi (fun v7 ev7 => ?_)
      have h := elet_at ev7 h
      clear ev7
      refine lv_if_ne (tgt := 92) hx hb dX12_readText_76 (by decide) (fun c8 => ?_) (fun c8 => ?_)
      · have h := oif_neg c8 h
        have hl := lv_sub hl [0] rfl
        exact tr_readText_b92 E hA hR hml hA0 hT kr116 _ _ _ _ h G hl
      · have h := oif_pos c8 h
        refine lv_aload_n hx hb dX12_readText_79 rfl (lv_at hl 0 rfl) ?_
        refine m_get E G 7 (v := .int (S2.1 7)) (by decide) (.tail _ qM_47) rfl dX12_readText_80 rfl ?_
        refine lv_topi (fun v9 ev9 => ?_)
        have h := elet_at ev9 h
        clear ev9
        refine lv_iconst (v := 1) hx hb dX12_readText_83 (by decide) ?_
        refine lv_icmp_eq (tgt := 92) hx hb dX12_readText_84 (by decide) (fun c10 => ?_) (fun c10 => ?_)
        · have h := oif_pos c10 h
          have hl := lv_sub hl [0] rfl
          exact tr_readText_b92 E hA hR hml hA0 hT kr116 _ _ _ _ h G hl
        · have h := oif_neg c10 h
          refine lv_aload_n hx hb dX12_readText_87 rfl (lv_at hl 0 rfl) ?_
          refine lv_iconst (v := 1) hx hb dX12_readText_88 (by decide) ?_
          obtain ⟨S11, eS11, h⟩ := obind_some h
          refine m_callv (As := [.int 1]) (rest := []) E G hA hR hml (tr_faults l D cI cJ cZ ad S2 1 eS11) (cwV 1 hts (gmV qM_118 qM_119 qM_120 qM_35 qM_42) rfl rfl rfl (by decide +kernel) ⟨Nat.le_of_ble_eq_true rfl, Nat.le_of_ble_eq_true rfl⟩) rfl hl.1 rfl (lv_room (Nat.le_of_ble_eq_true rfl)) dX12_readText_89 ⟨Nat.zero_le _, Nat.zero_le _⟩ (fun S13 H locs hq G => ?_)
          rw [hq] at G
          clear hq eS11
          have hl := lv_sub hl [0] rfl
          exact tr_readText_b92 E hA hR hml hA0 hT kr116 _ _ _ _ h G hl
    · have h := oif_neg c6 h
      refine lv_aload_n hx hb dX12_readText_61 rfl (lv_at hl 0 rfl) ?_
      obtain ⟨S14, eS14, h⟩ := obind_some h
      refine m_callv (As := []) (rest := []) E G hA hR hml (tr_nextToken l D cI cJ cZ ad S2 eS14) (cwV 0 hts (gmV qM_111 qM_112 qM_113 qM_35 qM_45) rfl rfl rfl (by decide +kernel) ⟨Nat.le_of_ble_eq_true rfl, Nat.le_of_ble_eq_true rfl⟩) rfl hl.1 rfl (lv_room (Nat.le_of_ble_eq_true rfl)) dX12_readText_62 ⟨Nat.zero_le _, Nat.zero_le _⟩ (fun S16 H locs hq G => ?_)
      rw [hq] at G
      clear hq eS14
      refine lv_aload_n hx hb dX12_readText_65 rfl (lv_at hl 0 rfl) ?_
      obtain ⟨S17, eS17, h⟩ := obind_some h
      refine m_callvX (As := []) (rest := []) E G hA hR hml (tr_readLine l D cI cJ cZ ad S14 h0 eS17) (cwV 0 hts (gmV qM_189 qM_190 qM_191 qM_35 qM_154) rfl rfl rfl (by decide +kernel) ⟨Nat.le_of_ble_eq_true rfl, Nat.le_of_ble_eq_true rfl⟩) rfl hl.1 rfl (lv_room (Nat.le_of_ble_eq_true rfl)) dX12_readText_66 ⟨Nat.zero_le _, Nat.zero_le _⟩ (xT0.blind) (xT0.go hT hA0 hA G) (fun S19 H locs hq G => ?_)
      rw [hq] at G
      clear hq eS17
      refine lv_goto (tgt := 52) hx hb dX12_readText_69 (by decide) ?_
      have hl := lv_sub hl [0] rfl
      exact ih _ _ _ _ h G hl
def fr_readText_b24  : Nat → MS → Int32 → Option (MS)
  | 0, _, _ => none
  | n + 1, S, l1 => if 2455 ≤ l1 then (obind (fr_nextToken S) fun S3 => obind (fr_readFirst S3) fun S6 => fr_readText_b52 16384 S6) else (oif (inb l1 2455 = true) <| elet (mf S 13 (upd (S.2.1 13) l1.toNatClampNeg 0)) fun S10 => elet (l1 + Int32.ofInt (1)) fun v11 => fr_readText_b24 n S10 v11)
set_option maxHeartbeats 4000000 in
set_option maxRecDepth 100000 in
theorem tr_readText_b24 {p : Program} {l : Launch} {e : Env} {s : State} {m : MethodId} {args : Array Value} {below : List Frame} {meth : Method} {c : Code} {Q : State → Prop} {D : va_G} {A : Nat → Prop} {cI cJ cZ : ClassId} {ad : Nat → Nat} {S1 : MS} (E : mE p c cX12_readText s m args (Cond.code yX12_readText cX12_readText 2 none :: wsM) D cI cJ cZ) (hA : ∀ q : Nat, s.heap.size ≤ q → A q) (hR : sR s) (hml : c.maxLocals = 2) {h0 : Nat} (hA0 : ∀ a : Nat, A a → h0 ≤ a) (hT : sAll h0 s) (kr116 : ∀ (H : Heap) (locs : List Loc) (ls : Array Slot), mG D cI cJ cZ ad A s.heap H locs S1 → W p l e { frames := 10, cells := 0, slots := 0, locals := 195 } s m args below meth c H locs 0 0 Q (F0 m 116 ls [])) : ∀ n : Nat, ∀ (S : MS) (H : Heap) (locs : List Loc) (ls : Array Slot) (l1 : Int32), fr_readText_b24 n S l1 = some S1 → mG D cI cJ cZ ad A s.heap H locs S → lv_has ls 2 [(0, .ref (ad 0)), (1, .int l1)] → W p l e { frames := 10, cells := 0, slots := 0, locals := 195 } s m args below meth c H locs 0 0 Q (F0 m 24 ls []) := by
  have hx := E.1
  have hb := E.2.1
  have hts := E.2.2.1
  have hown := E.2.2.2.1
  have hK := E.2.2.2.2.1
  intro n
  induction n with
  | zero =>
    intro S H locs ls l1 h
    have h : (none : Option (MS)) = some S1 := h
    cases h
  | succ n ih =>
    intro S H locs ls l1 h G hl
    unfold fr_readText_b24 at h
    refine lv_iload_n hx hb dX12_readText_24 rfl (lv_at hl 1 rfl) ?_
    refine lv_sipush (v := 2455) hx hb dX12_readText_25 (by decide) ?_
    refine lv_icmp_ge (tgt := 44) hx hb dX12_readText_28 (by decide) (fun c2 => ?_) (fun c2 => ?_)
    · have h := oif_pos c2 h
      refine lv_aload_n hx hb dX12_readText_44 rfl (lv_at hl 0 rfl) ?_
      obtain ⟨S3, eS3, h⟩ := obind_some h
      refine m_callv (As := []) (rest := []) E G hA hR hml (tr_nextToken l D cI cJ cZ ad S eS3) (cwV 0 hts (gmV qM_111 qM_112 qM_113 qM_35 qM_45) rfl rfl rfl (by decide +kernel) ⟨Nat.le_of_ble_eq_true rfl, Nat.le_of_ble_eq_true rfl⟩) rfl hl.1 rfl (lv_room (Nat.le_of_ble_eq_true rfl)) dX12_readText_45 ⟨Nat.zero_le _, Nat.zero_le _⟩ (fun S5 H locs hq G => ?_)
      rw [hq] at G
      clear hq eS3
      refine lv_aload_n hx hb dX12_readText_48 rfl (lv_at hl 0 rfl) ?_
      obtain ⟨S6, eS6, h⟩ := obind_some h
      refine m_callvX (As := []) (rest := []) E G hA hR hml (tr_readFirst l D cI cJ cZ ad S3 h0 eS6) (cwV 0 hts (gmV qM_186 qM_187 qM_188 qM_35 qM_137) rfl rfl rfl (by decide +kernel) ⟨Nat.le_of_ble_eq_true rfl, Nat.le_of_ble_eq_true rfl⟩) rfl hl.1 rfl (lv_room (Nat.le_of_ble_eq_true rfl)) dX12_readText_49 ⟨Nat.zero_le _, Nat.zero_le _⟩ (xT0.blind) (xT0.go hT hA0 hA G) (fun S8 H locs hq G => ?_)
      rw [hq] at G
      clear hq eS6
      have hl := lv_sub hl [0] rfl
      exact tr_readText_b52 E hA hR hml hA0 hT kr116 _ _ _ _ _ h G hl
    · have h := oif_neg c2 h
      refine lv_aload_n hx hb dX12_readText_31 rfl (lv_at hl 0 rfl) ?_
      refine m_get E G 13 (v := .ref (ad 13)) (by decide) (.tail _ qM_10) rfl dX12_readText_32 rfl ?_
      refine lv_iload_n hx hb dX12_readText_35 rfl (lv_at hl 1 rfl) ?_
      refine lv_iconst (v := 0) hx hb dX12_readText_36 (by decide) ?_
      obtain ⟨g9, h⟩ := oif_some h
      refine m_iast E G 13 5 (k := l1.toNatClampNeg) (v := 0) rfl (fun _ => rfl) (inb_k g9).1 (inb_k g9).2 (by decide) dX12_readText_37 (fun H locs G => ?_)
      obtain ⟨S10, eS10, h⟩ := elet_some h
      rw [← eS10] at G
      clear eS10
      obtain ⟨v11, ev11, h⟩ := elet_some h
      refine lv_iinc (v := v11) (lv' := [(1, .int v11), (0, .ref (ad 0))]) hx hb dX12_readText_38 hl (k := 1) rfl ev11.symm (by decide) rfl (fun ls hl => ?_)
      refine lv_goto (tgt := 24) hx hb dX12_readText_41 (by decide) ?_
      have hl := lv_sub hl [1, 0] rfl
      exact ih _ _ _ _ _ h G hl
def fr_readText_b2  : Nat → MS → Int32 → Option (MS)
  | 0, _, _ => none
  | n + 1, S, l1 => if 131 ≤ l1 then (fr_readText_b24 16384 S 0) else (oif (inb l1 131 = true) <| elet (mf S 11 (upd (S.2.1 11) l1.toNatClampNeg 0)) fun S4 => elet (l1 + Int32.ofInt (1)) fun v5 => fr_readText_b2 n S4 v5)
set_option maxHeartbeats 4000000 in
set_option maxRecDepth 100000 in
theorem tr_readText_b2 {p : Program} {l : Launch} {e : Env} {s : State} {m : MethodId} {args : Array Value} {below : List Frame} {meth : Method} {c : Code} {Q : State → Prop} {D : va_G} {A : Nat → Prop} {cI cJ cZ : ClassId} {ad : Nat → Nat} {S1 : MS} (E : mE p c cX12_readText s m args (Cond.code yX12_readText cX12_readText 2 none :: wsM) D cI cJ cZ) (hA : ∀ q : Nat, s.heap.size ≤ q → A q) (hR : sR s) (hml : c.maxLocals = 2) {h0 : Nat} (hA0 : ∀ a : Nat, A a → h0 ≤ a) (hT : sAll h0 s) (kr116 : ∀ (H : Heap) (locs : List Loc) (ls : Array Slot), mG D cI cJ cZ ad A s.heap H locs S1 → W p l e { frames := 10, cells := 0, slots := 0, locals := 195 } s m args below meth c H locs 0 0 Q (F0 m 116 ls [])) : ∀ n : Nat, ∀ (S : MS) (H : Heap) (locs : List Loc) (ls : Array Slot) (l1 : Int32), fr_readText_b2 n S l1 = some S1 → mG D cI cJ cZ ad A s.heap H locs S → lv_has ls 2 [(0, .ref (ad 0)), (1, .int l1)] → W p l e { frames := 10, cells := 0, slots := 0, locals := 195 } s m args below meth c H locs 0 0 Q (F0 m 2 ls []) := by
  have hx := E.1
  have hb := E.2.1
  have hts := E.2.2.1
  have hown := E.2.2.2.1
  have hK := E.2.2.2.2.1
  intro n
  induction n with
  | zero =>
    intro S H locs ls l1 h
    have h : (none : Option (MS)) = some S1 := h
    cases h
  | succ n ih =>
    intro S H locs ls l1 h G hl
    unfold fr_readText_b2 at h
    refine lv_iload_n hx hb dX12_readText_2 rfl (lv_at hl 1 rfl) ?_
    refine lv_sipush (v := 131) hx hb dX12_readText_3 (by decide) ?_
    refine lv_icmp_ge (tgt := 22) hx hb dX12_readText_6 (by decide) (fun c2 => ?_) (fun c2 => ?_)
    · have h := oif_pos c2 h
      refine lv_iconst (v := 0) hx hb dX12_readText_22 (by decide) ?_
      refine lv_istore_n (lv' := [(1, .int 0), (0, .ref (ad 0))]) hx hb dX12_readText_23 rfl hl (by decide) rfl (fun ls hl => ?_)
      have hl := lv_sub hl [1, 0] rfl
      exact tr_readText_b24 E hA hR hml hA0 hT kr116 _ _ _ _ _ _ h G hl
    · have h := oif_neg c2 h
      refine lv_aload_n hx hb dX12_readText_9 rfl (lv_at hl 0 rfl) ?_
      refine m_get E G 11 (v := .ref (ad 11)) (by decide) (.tail _ qM_8) rfl dX12_readText_10 rfl ?_
      refine lv_iload_n hx hb dX12_readText_13 rfl (lv_at hl 1 rfl) ?_
      refine lv_iconst (v := 0) hx hb dX12_readText_14 (by decide) ?_
      obtain ⟨g3, h⟩ := oif_some h
      refine m_iast E G 11 3 (k := l1.toNatClampNeg) (v := 0) rfl (fun _ => rfl) (inb_k g3).1 (inb_k g3).2 (by decide) dX12_readText_15 (fun H locs G => ?_)
      obtain ⟨S4, eS4, h⟩ := elet_some h
      rw [← eS4] at G
      clear eS4
      obtain ⟨v5, ev5, h⟩ := elet_some h
      refine lv_iinc (v := v5) (lv' := [(1, .int v5), (0, .ref (ad 0))]) hx hb dX12_readText_16 hl (k := 1) rfl ev5.symm (by decide) rfl (fun ls hl => ?_)
      refine lv_goto (tgt := 2) hx hb dX12_readText_19 (by decide) ?_
      have hl := lv_sub hl [1, 0] rfl
      exact ih _ _ _ _ _ h G hl
def fr_readText (S : MS)  : Option (MS) := fr_readText_b2 16384 S 0
set_option maxHeartbeats 4000000 in
set_option maxRecDepth 100000 in
theorem tr_readText (l : Launch) (D : va_G) (cI cJ cZ : ClassId) (ad : Nat → Nat) (S : MS) (h0 : Nat)  {S1 : MS} (h : fr_readText S = some S1) : mCvX l yX12_readText (Cond.code yX12_readText cX12_readText 2 none :: wsM) 10 195 D cI cJ cZ ad S [] (xT0 cI cJ cZ h0 ad S) (fun S9 => S9 = S1) := by
  intro sz
  refine pro_in (cc := cX12_readText) (maxL := 2) (ret := none) (by exact pn_RX12) rfl (by exact Nat.le_of_ble_eq_true rfl) (fun p e s m below meth c ls hx hb hr hts hown hlocks hml hv hl => ?_)
  obtain ⟨⟨hsz, hP, hK, hD0, hR⟩, hA1, hT⟩ := hv
  subst hsz
  have hD := hD0.self (sz := s.heap.size)
  generalize hAe : va_A (MW cI cJ cZ ad S) s.heap.size = A at hD hA1 ⊢
  have hA : ∀ q : Nat, s.heap.size ≤ q → A q := fun q h => by rw [← hAe]; exact Or.inr h
  have G : mG D cI cJ cZ ad A s.heap s.heap [] S := ⟨hP, hD, va_S.rf⟩
  have E : mE p c cX12_readText s m ([.ref (ad 0)] : List Value).toArray (Cond.code yX12_readText cX12_readText 2 none :: wsM) D cI cJ cZ := ⟨hx, hb, hts, hown, hK, fun w h => .tail _ (iM_x h)⟩
  have hA0 : ∀ a : Nat, A a → h0 ≤ a := hA1
  have hl : lv_has ls 2 [(0, .ref (ad 0))] := hl
  unfold fr_readText at h
  refine lv_iconst (v := 0) hx hb dX12_readText_0 (by decide) ?_
  refine lv_istore_n (lv' := [(1, .int 0), (0, .ref (ad 0))]) hx hb dX12_readText_1 rfl hl (by decide) rfl (fun ls hl => ?_)
  have hl := lv_sub hl [1, 0] rfl
  exact tr_readText_b2 E hA hR hml hA0 hT (fun H locs ls G => W.vret hx hb hr (fun t ht hW => ⟨⟨S1, rfl, rfl, ⟨by rw [ht]; exact G.1, va_K.moved hW.alike hK, G.2.1⟩⟩, G.2.2.F ht⟩) G.2.2.2.2 dX12_readText_116) _ _ _ _ _ _ h G hl
def fr_copy_13_12_b3  : Nat → MS → Int32 → Int32 → Int32 → Option (MS)
  | 0, _, _, _, _ => none
  | n + 1, S, l1, l3, l4 => if 2455 ≤ l4 then (some S) else (elet (l3 + l4) fun v3 => elet (l1 + l4) fun v4 => oif (inb v4 2455 = true) <| elet (S.2.1 13 v4.toNatClampNeg) fun v6 => oif (inb v3 2455 = true) <| elet (mf S 12 (upd (S.2.1 12) v3.toNatClampNeg v6)) fun S8 => elet (l4 + Int32.ofInt (1)) fun v9 => fr_copy_13_12_b3 n S8 l1 l3 v9)
set_option maxHeartbeats 4000000 in
set_option maxRecDepth 100000 in
theorem tr_copy_13_12_b3 {p : Program} {l : Launch} {e : Env} {s : State} {m : MethodId} {args : Array Value} {below : List Frame} {meth : Method} {c : Code} {Q : State → Prop} {D : va_G} {A : Nat → Prop} {H0 : Heap} {cI cJ cZ : ClassId} {ad : Nat → Nat} {S1 : MS} (E : mE p c cX12_copy s m args (Cond.code yX12_copy cX12_copy 5 none :: wsM) D cI cJ cZ) (hA : ∀ q : Nat, H0.size ≤ q → A q) (hR : sR s) (hml : c.maxLocals = 5) (kr29 : ∀ (H : Heap) (locs : List Loc) (ls : Array Slot), mG D cI cJ cZ ad A H0 H locs S1 → W p l e { frames := 1, cells := 0, slots := 0, locals := 0 } s m args below meth c H locs 0 0 Q (F0 m 29 ls [])) : ∀ n : Nat, ∀ (S : MS) (H : Heap) (locs : List Loc) (ls : Array Slot) (l1 : Int32) (l3 : Int32) (l4 : Int32), fr_copy_13_12_b3 n S l1 l3 l4 = some S1 → mG D cI cJ cZ ad A H0 H locs S → lv_has ls 5 [(0, .ref (ad 13)), (1, .int l1), (2, .ref (ad 12)), (3, .int l3), (4, .int l4)] → W p l e { frames := 1, cells := 0, slots := 0, locals := 0 } s m args below meth c H locs 0 0 Q (F0 m 3 ls []) := by
  have hx := E.1
  have hb := E.2.1
  have hts := E.2.2.1
  have hown := E.2.2.2.1
  have hK := E.2.2.2.2.1
  intro n
  induction n with
  | zero =>
    intro S H locs ls l1 l3 l4 h
    have h : (none : Option (MS)) = some S1 := h
    cases h
  | succ n ih =>
    intro S H locs ls l1 l3 l4 h G hl
    unfold fr_copy_13_12_b3 at h
    refine lv_iload hx hb dX12_copy_3 (lv_at hl 4 rfl) ?_
    refine lv_sipush (v := 2455) hx hb dX12_copy_5 (by decide) ?_
    refine lv_icmp_ge (tgt := 29) hx hb dX12_copy_8 (by decide) (fun c2 => ?_) (fun c2 => ?_)
    · have h := oif_pos c2 h
      rw [osome1 h] at G
      exact kr29 _ _ _ G
    · have h := oif_neg c2 h
      refine lv_aload_n hx hb dX12_copy_11 rfl (lv_at hl 2 rfl) ?_
      refine lv_iload_n hx hb dX12_copy_12 rfl (lv_at hl 3 rfl) ?_
      refine lv_iload hx hb dX12_copy_13 (lv_at hl 4 rfl) ?_
      refine lv_iadd hx hb dX12_copy_15 ?_
      refine lv_topi (fun v3 ev3 => ?_)
      have h := elet_at ev3 h
      clear ev3
      refine lv_aload_n hx hb dX12_copy_16 rfl (lv_at hl 0 rfl) ?_
      refine lv_iload_n hx hb dX12_copy_17 rfl (lv_at hl 1 rfl) ?_
      refine lv_iload hx hb dX12_copy_18 (lv_at hl 4 rfl) ?_
      refine lv_iadd hx hb dX12_copy_20 ?_
      refine lv_topi (fun v4 ev4 => ?_)
      have h := elet_at ev4 h
      clear ev4
      obtain ⟨g5, h⟩ := oif_some h
      refine m_iald E G 13 5 (n := 2455) (k := v4.toNatClampNeg) rfl (inb_k g5).1 (inb_k g5).2 (by decide) dX12_copy_21 ?_
      refine lv_topi (fun v6 ev6 => ?_)
      have h := elet_at ev6 h
      clear ev6
      obtain ⟨g7, h⟩ := oif_some h
      refine m_iast E G 12 4 (k := v3.toNatClampNeg) (v := v6) rfl (fun _ => rfl) (inb_k g7).1 (inb_k g7).2 (by decide) dX12_copy_22 (fun H locs G => ?_)
      obtain ⟨S8, eS8, h⟩ := elet_some h
      rw [← eS8] at G
      clear eS8
      obtain ⟨v9, ev9, h⟩ := elet_some h
      refine lv_iinc (v := v9) (lv' := [(4, .int v9), (0, .ref (ad 13)), (1, .int l1), (2, .ref (ad 12)), (3, .int l3)]) hx hb dX12_copy_23 hl (k := 4) rfl ev9.symm (by decide) rfl (fun ls hl => ?_)
      refine lv_goto (tgt := 3) hx hb dX12_copy_26 (by decide) ?_
      have hl := lv_sub hl [1, 2, 3, 4, 0] rfl
      exact ih _ _ _ _ _ _ _ h G hl
def fr_copy_13_12 (S : MS) (a1 : Int32) (a3 : Int32) : Option (MS) := fr_copy_13_12_b3 16384 S a1 a3 0
set_option maxHeartbeats 4000000 in
set_option maxRecDepth 100000 in
theorem tr_copy_13_12 (l : Launch) (D : va_G) (cI cJ cZ : ClassId) (ad : Nat → Nat) (S : MS) (a1 : Int32) (a3 : Int32) {S1 : MS} (h : fr_copy_13_12 S a1 a3 = some S1) : mCs l yX12_copy (Cond.code yX12_copy cX12_copy 5 none :: wsM) 1 0 D cI cJ cZ ad S [.ref (ad 13), .int a1, .ref (ad 12), .int a3] (fun S9 => S9 = S1) := by
  intro sz
  refine pro_in (cc := cX12_copy) (maxL := 5) (ret := none) (by exact pn_RX12) rfl (by exact Nat.le_of_ble_eq_true rfl) (fun p e s m below meth c ls hx hb hr hts hown hlocks hml hv hl => ?_)
  obtain ⟨hsz, hP, hK, hD0, hR⟩ := hv
  subst hsz
  have hD := hD0.self (sz := s.heap.size)
  generalize hAe : va_A (MW cI cJ cZ ad S) s.heap.size = A at hD ⊢
  have hA : ∀ q : Nat, s.heap.size ≤ q → A q := fun q h => by rw [← hAe]; exact Or.inr h
  have G : mG D cI cJ cZ ad A s.heap s.heap [] S := ⟨hP, hD, va_S.rf⟩
  have E : mE p c cX12_copy s m ([.ref (ad 13), .int a1, .ref (ad 12), .int a3] : List Value).toArray (Cond.code yX12_copy cX12_copy 5 none :: wsM) D cI cJ cZ := ⟨hx, hb, hts, hown, hK, fun w h => .tail _ (iM_x h)⟩
  have hl : lv_has ls 5 [(0, .ref (ad 13)), (1, .int a1), (2, .ref (ad 12)), (3, .int a3)] := hl
  unfold fr_copy_13_12 at h
  refine lv_iconst (v := 0) hx hb dX12_copy_0 (by decide) ?_
  refine lv_istore (lv' := [(4, .int 0), (0, .ref (ad 13)), (1, .int a1), (2, .ref (ad 12)), (3, .int a3)]) hx hb dX12_copy_1 hl (by decide) rfl (fun ls hl => ?_)
  have hl := lv_sub hl [1, 2, 3, 4, 0] rfl
  exact tr_copy_13_12_b3 E hA hR hml (fun H locs ls G => W.vret hx hb hr (fun t ht hW => ⟨⟨S1, rfl, rfl, ⟨by rw [ht]; exact G.1, va_K.moved hW.alike hK, G.2.1⟩⟩, G.2.2.F ht⟩) G.2.2.2.2 dX12_copy_29) _ _ _ _ _ _ _ _ h G hl
def fr_cellCount (S : MS)  : Option (Int32 × MS) := elet (S.2.1 10 9) fun v2 => elet (S.2.1 10 10) fun v3 => elet (v2 * v3) fun v4 => some (v4, S)
set_option maxHeartbeats 4000000 in
set_option maxRecDepth 100000 in
theorem tr_cellCount (l : Launch) (D : va_G) (cI cJ cZ : ClassId) (ad : Nat → Nat) (S : MS)  {r1 : Int32} {S1 : MS} (h : fr_cellCount S = some (r1, S1)) : mCi l yX12_cellCount (Cond.code yX12_cellCount cX12_cellCount 1 (some .int) :: wsM) 1 0 D cI cJ cZ ad S [] (fun r S9 => r = r1 ∧ S9 = S1) := by
  intro sz
  refine pro_in (cc := cX12_cellCount) (maxL := 1) (ret := (some .int)) (by exact pn_RX12) rfl (by exact Nat.le_of_ble_eq_true rfl) (fun p e s m below meth c ls hx hb hr hts hown hlocks hml hv hl => ?_)
  obtain ⟨hsz, hP, hK, hD0, hR⟩ := hv
  subst hsz
  have hD := hD0.self (sz := s.heap.size)
  generalize hAe : va_A (MW cI cJ cZ ad S) s.heap.size = A at hD ⊢
  have hA : ∀ q : Nat, s.heap.size ≤ q → A q := fun q h => by rw [← hAe]; exact Or.inr h
  have G : mG D cI cJ cZ ad A s.heap s.heap [] S := ⟨hP, hD, va_S.rf⟩
  have E : mE p c cX12_cellCount s m ([.ref (ad 0)] : List Value).toArray (Cond.code yX12_cellCount cX12_cellCount 1 (some .int) :: wsM) D cI cJ cZ := ⟨hx, hb, hts, hown, hK, fun w h => .tail _ (iM_x h)⟩
  have hl : lv_has ls 1 [(0, .ref (ad 0))] := hl
  unfold fr_cellCount at h
  refine lv_aload_n hx hb dX12_cellCount_0 rfl (lv_at hl 0 rfl) ?_
  refine m_get E G 10 (v := .ref (ad 10)) (by decide) (.tail _ qM_7) rfl dX12_cellCount_1 rfl ?_
  refine lv_bipush (v := 9) hx hb dX12_cellCount_4 (by decide) ?_
  refine m_iald E G 10 2 (n := 131) (k := 9) rfl rfl (by decide) (by decide) dX12_cellCount_6 ?_
  refine lv_topi (fun v2 ev2 => ?_)
  have h := elet_at ev2 h
  clear ev2
  refine lv_aload_n hx hb dX12_cellCount_7 rfl (lv_at hl 0 rfl) ?_
  refine m_get E G 10 (v := .ref (ad 10)) (by decide) (.tail _ qM_7) rfl dX12_cellCount_8 rfl ?_
  refine lv_bipush (v := 10) hx hb dX12_cellCount_11 (by decide) ?_
  refine m_iald E G 10 2 (n := 131) (k := 10) rfl rfl (by decide) (by decide) dX12_cellCount_13 ?_
  refine lv_topi (fun v3 ev3 => ?_)
  have h := elet_at ev3 h
  clear ev3
  refine lv_imul hx hb dX12_cellCount_14 ?_
  refine lv_topi (fun v4 ev4 => ?_)
  have h := elet_at ev4 h
  clear ev4
  exact W.iret (v := v4) hx hb hr (fun t ht hW => ⟨⟨v4, S, rfl, osome2 h, ⟨by rw [ht]; exact G.1, va_K.moved hW.alike hK, G.2.1⟩⟩, G.2.2.F ht⟩) G.2.2.2.2 dX12_cellCount_15
def fr_centre_b57  (S : MS) (s0 : Int32) : Option (Int32 × MS) := some (s0, S)
set_option maxHeartbeats 4000000 in
set_option maxRecDepth 100000 in
theorem tr_centre_b57 {p : Program} {l : Launch} {e : Env} {s : State} {m : MethodId} {args : Array Value} {below : List Frame} {meth : Method} {c : Code} {Q : State → Prop} {D : va_G} {A : Nat → Prop} {H0 : Heap} {cI cJ cZ : ClassId} {ad : Nat → Nat} {r1 : Int32} {S1 : MS} (E : mE p c cX12_centre s m args (Cond.code yX12_centre cX12_centre 3 (some .int) :: wsM) D cI cJ cZ) (hA : ∀ q : Nat, H0.size ≤ q → A q) (hR : sR s) (hml : c.maxLocals = 3) (kr57 : ∀ (H : Heap) (locs : List Loc) (ls : Array Slot), mG D cI cJ cZ ad A H0 H locs S1 → W p l e { frames := 1, cells := 0, slots := 0, locals := 0 } s m args below meth c H locs 0 0 Q (F0 m 57 ls [.int r1])) : ∀ (S : MS) (H : Heap) (locs : List Loc) (ls : Array Slot) (s0 : Int32), fr_centre_b57 S s0 = some (r1, S1) → mG D cI cJ cZ ad A H0 H locs S → lv_has ls 3 [] → W p l e { frames := 1, cells := 0, slots := 0, locals := 0 } s m args below meth c H locs 0 0 Q (F0 m 57 ls [.int s0]) := by
  have hx := E.1
  have hb := E.2.1
  have hts := E.2.2.1
  have hown := E.2.2.2.1
  have hK := E.2.2.2.2.1
  intro S H locs ls s0 h G hl
  unfold fr_centre_b57 at h
  rw [(osome2 h).2] at G
  refine lv_to (osome2 h).1 ?_
  exact kr57 _ _ _ G
def fr_centre (S : MS) (a0 : Int32) (a1 : Int32) : Option (Int32 × MS) := if a1 = 0 then (elet (S.2.1 10 6) fun v3 => elet (S.2.1 10 8) fun v4 => elet (S.2.1 10 9) fun v5 => oif (¬ v5 = 0) <| elet (a0 - a0 / v5 * v5) fun v7 => elet (v4 * v7) fun v8 => elet (v3 + v8) fun v9 => fr_centre_b57 S v9) else (elet (S.2.1 10 7) fun v10 => elet (S.2.1 10 8) fun v11 => elet (S.2.1 10 9) fun v12 => oif (¬ v12 = 0) <| elet (a0 / v12) fun v14 => elet (v11 * v14) fun v15 => elet (v10 + v15) fun v16 => fr_centre_b57 S v16)
set_option maxHeartbeats 4000000 in
set_option maxRecDepth 100000 in
theorem tr_centre (l : Launch) (D : va_G) (cI cJ cZ : ClassId) (ad : Nat → Nat) (S : MS) (a0 : Int32) (a1 : Int32) {r1 : Int32} {S1 : MS} (h : fr_centre S a0 a1 = some (r1, S1)) : mCi l yX12_centre (Cond.code yX12_centre cX12_centre 3 (some .int) :: wsM) 1 0 D cI cJ cZ ad S [.int a0, .int a1] (fun r S9 => r = r1 ∧ S9 = S1) := by
  intro sz
  refine pro_in (cc := cX12_centre) (maxL := 3) (ret := (some .int)) (by exact pn_RX12) rfl (by exact Nat.le_of_ble_eq_true rfl) (fun p e s m below meth c ls hx hb hr hts hown hlocks hml hv hl => ?_)
  obtain ⟨hsz, hP, hK, hD0, hR⟩ := hv
  subst hsz
  have hD := hD0.self (sz := s.heap.size)
  generalize hAe : va_A (MW cI cJ cZ ad S) s.heap.size = A at hD ⊢
  have hA : ∀ q : Nat, s.heap.size ≤ q → A q := fun q h => by rw [← hAe]; exact Or.inr h
  have G : mG D cI cJ cZ ad A s.heap s.heap [] S := ⟨hP, hD, va_S.rf⟩
  have E : mE p c cX12_centre s m ([.ref (ad 0), .int a0, .int a1] : List Value).toArray (Cond.code yX12_centre cX12_centre 3 (some .int) :: wsM) D cI cJ cZ := ⟨hx, hb, hts, hown, hK, fun w h => .tail _ (iM_x h)⟩
  have hl : lv_has ls 3 [(0, .ref (ad 0)), (1, .int a0), (2, .int a1)] := hl
  unfold fr_centre at h
  refine lv_iload_n hx hb dX12_centre_0 rfl (lv_at hl 2 rfl) ?_
  refine lv_if_ne (tgt := 32) hx hb dX12_centre_1 (by decide) (fun c2 => ?_) (fun c2 => ?_)
  · have h := oif_neg c2 h
    refine lv_aload_n hx hb dX12_centre_32 rfl (lv_at hl 0 rfl) ?_
    refine m_get E G 10 (v := .ref (ad 10)) (by decide) (.tail _ qM_7) rfl dX12_centre_33 rfl ?_
    refine lv_bipush (v := 7) hx hb dX12_centre_36 (by decide) ?_
    refine m_iald E G 10 2 (n := 131) (k := 7) rfl rfl (by decide) (by decide) dX12_centre_38 ?_
    refine lv_topi (fun v10 ev10 => ?_)
    have h := elet_at ev10 h
    clear ev10
    refine lv_aload_n hx hb dX12_centre_39 rfl (lv_at hl 0 rfl) ?_
    refine m_get E G 10 (v := .ref (ad 10)) (by decide) (.tail _ qM_7) rfl dX12_centre_40 rfl ?_
    refine lv_bipush (v := 8) hx hb dX12_centre_43 (by decide) ?_
    refine m_iald E G 10 2 (n := 131) (k := 8) rfl rfl (by decide) (by decide) dX12_centre_45 ?_
    refine lv_topi (fun v11 ev11 => ?_)
    have h := elet_at ev11 h
    clear ev11
    refine lv_iload_n hx hb dX12_centre_46 rfl (lv_at hl 1 rfl) ?_
    refine lv_aload_n hx hb dX12_centre_47 rfl (lv_at hl 0 rfl) ?_
    refine m_get E G 10 (v := .ref (ad 10)) (by decide) (.tail _ qM_7) rfl dX12_centre_48 rfl ?_
    refine lv_bipush (v := 9) hx hb dX12_centre_51 (by decide) ?_
    refine m_iald E G 10 2 (n := 131) (k := 9) rfl rfl (by decide) (by decide) dX12_centre_53 ?_
    refine lv_topi (fun v12 ev12 => ?_)
    have h := elet_at ev12 h
    clear ev12
    obtain ⟨g13, h⟩ := oif_some h
    refine lv_idiv hx hb dX12_centre_54 g13 ?_
    refine lv_topi (fun v14 ev14 => ?_)
    have h := elet_at ev14 h
    clear ev14
    refine lv_imul hx hb dX12_centre_55 ?_
    refine lv_topi (fun v15 ev15 => ?_)
    have h := elet_at ev15 h
    clear ev15
    refine lv_iadd hx hb dX12_centre_56 ?_
    refine lv_topi (fun v16 ev16 => ?_)
    have h := elet_at ev16 h
    clear ev16
    have hl := lv_sub hl [] rfl
    exact tr_centre_b57 E hA hR hml (fun H locs ls G => W.iret (v := r1) hx hb hr (fun t ht hW => ⟨⟨r1, S1, rfl, ⟨rfl, rfl⟩, ⟨by rw [ht]; exact G.1, va_K.moved hW.alike hK, G.2.1⟩⟩, G.2.2.F ht⟩) G.2.2.2.2 dX12_centre_57) _ _ _ _ _ h G hl
  · have h := oif_pos c2 h
    refine lv_aload_n hx hb dX12_centre_4 rfl (lv_at hl 0 rfl) ?_
    refine m_get E G 10 (v := .ref (ad 10)) (by decide) (.tail _ qM_7) rfl dX12_centre_5 rfl ?_
    refine lv_bipush (v := 6) hx hb dX12_centre_8 (by decide) ?_
    refine m_iald E G 10 2 (n := 131) (k := 6) rfl rfl (by decide) (by decide) dX12_centre_10 ?_
    refine lv_topi (fun v3 ev3 => ?_)
    have h := elet_at ev3 h
    clear ev3
    refine lv_aload_n hx hb dX12_centre_11 rfl (lv_at hl 0 rfl) ?_
    refine m_get E G 10 (v := .ref (ad 10)) (by decide) (.tail _ qM_7) rfl dX12_centre_12 rfl ?_
    refine lv_bipush (v := 8) hx hb dX12_centre_15 (by decide) ?_
    refine m_iald E G 10 2 (n := 131) (k := 8) rfl rfl (by decide) (by decide) dX12_centre_17 ?_
    refine lv_topi (fun v4 ev4 => ?_)
    have h := elet_at ev4 h
    clear ev4
    refine lv_iload_n hx hb dX12_centre_18 rfl (lv_at hl 1 rfl) ?_
    refine lv_aload_n hx hb dX12_centre_19 rfl (lv_at hl 0 rfl) ?_
    refine m_get E G 10 (v := .ref (ad 10)) (by decide) (.tail _ qM_7) rfl dX12_centre_20 rfl ?_
    refine lv_bipush (v := 9) hx hb dX12_centre_23 (by decide) ?_
    refine m_iald E G 10 2 (n := 131) (k := 9) rfl rfl (by decide) (by decide) dX12_centre_25 ?_
    refine lv_topi (fun v5 ev5 => ?_)
    have h := elet_at ev5 h
    clear ev5
    obtain ⟨g6, h⟩ := oif_some h
    refine lv_irem hx hb dX12_centre_26 g6 ?_
    refine lv_topi (fun v7 ev7 => ?_)
    have h := elet_at ev7 h
    clear ev7
    refine lv_imul hx hb dX12_centre_27 ?_
    refine lv_topi (fun v8 ev8 => ?_)
    have h := elet_at ev8 h
    clear ev8
    refine lv_iadd hx hb dX12_centre_28 ?_
    refine lv_topi (fun v9 ev9 => ?_)
    have h := elet_at ev9 h
    clear ev9
    refine lv_goto (tgt := 57) hx hb dX12_centre_29 (by decide) ?_
    have hl := lv_sub hl [] rfl
    exact tr_centre_b57 E hA hR hml (fun H locs ls G => W.iret (v := r1) hx hb hr (fun t ht hW => ⟨⟨r1, S1, rfl, ⟨rfl, rfl⟩, ⟨by rw [ht]; exact G.1, va_K.moved hW.alike hK, G.2.1⟩⟩, G.2.2.F ht⟩) G.2.2.2.2 dX12_centre_57) _ _ _ _ _ h G hl
def fr_root_b28 (k6 : Int32 → Int32 → Int32 → Option (Int32))  (l0 : Int32) (l1 : Int32) (l2 : Int32) : Option (Int32) := elet (l2 / 2) fun v2 => k6 l0 l1 v2
set_option maxHeartbeats 4000000 in
set_option maxRecDepth 100000 in
theorem tr_root_b28 {p : Program} {l : Launch} {e : Env} {s : State} {m : MethodId} {args : Array Value} {below : List Frame} {meth : Method} {c : Code} {Q : State → Prop} {r1 : Int32} (E : p.tables.exec = Jvm.exec ∧ c.code = cX12_root ∧ (∀ w ∈ (Cond.code yX12_root cX12_root 5 (some .int) :: wsM), w.before args s = true) ∧ s.vm.findClass RX12 = some m.cls) (hml : c.maxLocals = 5) (kr36 : ∀ (ls : Array Slot), W p l e { frames := 1, cells := 0, slots := 0, locals := 0 } s m args below meth c s.heap [] 0 0 Q (F0 m 36 ls [.int r1])) {k6 : Int32 → Int32 → Int32 → Option (Int32)} (hk6 : ∀ (ls : Array Slot) (l0 : Int32) (l1 : Int32) (l2 : Int32), k6 l0 l1 l2 = some r1 → lv_has ls 5 [(0, .int l0), (1, .int l1), (2, .int l2)] → W p l e { frames := 1, cells := 0, slots := 0, locals := 0 } s m args below meth c s.heap [] 0 0 Q (F0 m 6 ls [])) : ∀ (ls : Array Slot) (l0 : Int32) (l1 : Int32) (l2 : Int32), fr_root_b28 k6 l0 l1 l2 = some r1 → lv_has ls 5 [(0, .int l0), (1, .int l1), (2, .int l2)] → W p l e { frames := 1, cells := 0, slots := 0, locals := 0 } s m args below meth c s.heap [] 0 0 Q (F0 m 28 ls []) := by
  have hx := E.1
  have hb := E.2.1
  have hts := E.2.2.1
  have hown := E.2.2.2
  intro ls l0 l1 l2 h hl
  unfold fr_root_b28 at h
  refine lv_iload_n hx hb dX12_root_28 rfl (lv_at hl 2 rfl) ?_
  refine lv_iconst (v := 2) hx hb dX12_root_29 (by decide) ?_
  refine lv_idiv hx hb dX12_root_30 (by decide) ?_
  refine lv_topi (fun v2 ev2 => ?_)
  have h := elet_at ev2 h
  clear ev2
  refine lv_istore_n (lv' := [(2, .int v2), (0, .int l0), (1, .int l1)]) hx hb dX12_root_31 rfl hl (by decide) rfl (fun ls hl => ?_)
  refine lv_goto (tgt := 6) hx hb dX12_root_32 (by decide) ?_
  have hl := lv_sub hl [1, 2, 0] rfl
  exact hk6 _ _ _ _ h hl
def fr_root_b6  : Nat → Int32 → Int32 → Int32 → Option (Int32)
  | 0, _, _, _ => none
  | n + 1, l0, l1, l2 => if l2 ≤ 0 then (some l1) else (elet (l1 + l2) fun v3 => elet (v3.toInt64) fun v4 => elet (v4 * v4) fun v5 => elet (l0.toInt64) fun v6 => elet (lg_cmp v5 v6) fun v7 => if 0 < v7 then (fr_root_b28 (fr_root_b6 n) l0 l1 l2) else (elet (l1 + l2) fun v9 => fr_root_b28 (fr_root_b6 n) l0 v9 l2))
set_option maxHeartbeats 4000000 in
set_option maxRecDepth 100000 in
theorem tr_root_b6 {p : Program} {l : Launch} {e : Env} {s : State} {m : MethodId} {args : Array Value} {below : List Frame} {meth : Method} {c : Code} {Q : State → Prop} {r1 : Int32} (E : p.tables.exec = Jvm.exec ∧ c.code = cX12_root ∧ (∀ w ∈ (Cond.code yX12_root cX12_root 5 (some .int) :: wsM), w.before args s = true) ∧ s.vm.findClass RX12 = some m.cls) (hml : c.maxLocals = 5) (kr36 : ∀ (ls : Array Slot), W p l e { frames := 1, cells := 0, slots := 0, locals := 0 } s m args below meth c s.heap [] 0 0 Q (F0 m 36 ls [.int r1])) : ∀ n : Nat, ∀ (ls : Array Slot) (l0 : Int32) (l1 : Int32) (l2 : Int32), fr_root_b6 n l0 l1 l2 = some r1 → lv_has ls 5 [(0, .int l0), (1, .int l1), (2, .int l2)] → W p l e { frames := 1, cells := 0, slots := 0, locals := 0 } s m args below meth c s.heap [] 0 0 Q (F0 m 6 ls []) := by
  have hx := E.1
  have hb := E.2.1
  have hts := E.2.2.1
  have hown := E.2.2.2
  intro n
  induction n with
  | zero =>
    intro ls l0 l1 l2 h
    have h : (none : Option (Int32)) = some r1 := h
    cases h
  | succ n ih =>
    intro ls l0 l1 l2 h hl
    unfold fr_root_b6 at h
    refine lv_iload_n hx hb dX12_root_6 rfl (lv_at hl 2 rfl) ?_
    refine lv_if_le (tgt := 35) hx hb dX12_root_7 (by decide) (fun c2 => ?_) (fun c2 => ?_)
    · have h := oif_pos c2 h
      refine lv_iload_n hx hb dX12_root_35 rfl (lv_at hl 1 rfl) ?_
      refine lv_to (osome1 h) ?_
      exact kr36 _
    · have h := oif_neg c2 h
      refine lv_iload_n hx hb dX12_root_10 rfl (lv_at hl 1 rfl) ?_
      refine lv_iload_n hx hb dX12_root_11 rfl (lv_at hl 2 rfl) ?_
      refine lv_iadd hx hb dX12_root_12 ?_
      refine lv_topi (fun v3 ev3 => ?_)
      have h := elet_at ev3 h
      clear ev3
      refine lv_i2l (v := v3.toInt64) hx hb dX12_root_13 rfl ?_
      refine lv_topl (fun v4 ev4 => ?_)
      have h := elet_at ev4 h
      clear ev4
      refine lv_lstore_n (lv' := [(3, .long v4), (0, .int l0), (1, .int l1), (2, .int l2)]) hx hb dX12_root_14 rfl hl (by decide) rfl (fun ls hl => ?_)
      refine lv_lload_n hx hb dX12_root_15 rfl (lv_at hl 0 rfl) ?_
      refine lv_lload_n hx hb dX12_root_16 rfl (lv_at hl 0 rfl) ?_
      refine lv_lmul hx hb dX12_root_17 ?_
      refine lv_topl (fun v5 ev5 => ?_)
      have h := elet_at ev5 h
      clear ev5
      refine lv_iload_n hx hb dX12_root_18 rfl (lv_at hl 1 rfl) ?_
      refine lv_i2l (v := l0.toInt64) hx hb dX12_root_19 rfl ?_
      refine lv_topl (fun v6 ev6 => ?_)
      have h := elet_at ev6 h
      clear ev6
      refine W.lcmp hx hb dX12_root_20 ?_
      refine lv_topi (fun v7 ev7 => ?_)
      have h := elet_at ev7 h
      clear ev7
      refine lv_if_gt (tgt := 28) hx hb dX12_root_21 (by decide) (fun c8 => ?_) (fun c8 => ?_)
      · have h := oif_pos c8 h
        have hl := lv_sub hl [1, 2, 3] rfl
        exact tr_root_b28 E hml kr36 ih _ _ _ _ h hl
      · have h := oif_neg c8 h
        refine lv_iload_n hx hb dX12_root_24 rfl (lv_at hl 2 rfl) ?_
        refine lv_iload_n hx hb dX12_root_25 rfl (lv_at hl 3 rfl) ?_
        refine lv_iadd hx hb dX12_root_26 ?_
        refine lv_topi (fun v9 ev9 => ?_)
        have h := elet_at ev9 h
        clear ev9
        refine lv_istore_n (lv' := [(1, .int v9), (3, .long v4), (0, .int l0), (2, .int l2)]) hx hb dX12_root_27 rfl hl (by decide) rfl (fun ls hl => ?_)
        have hl := lv_sub hl [2, 0, 3] rfl
        exact tr_root_b28 E hml kr36 ih _ _ _ _ h hl
def fr_root  (a0 : Int32) : Option (Int32) := fr_root_b6 16384 a0 0 32768
set_option maxHeartbeats 4000000 in
set_option maxRecDepth 100000 in
theorem tr_root (l : Launch) (a0 : Int32) {r1 : Int32} (h : fr_root a0 = some r1) : Met l yX12_root (Cond.code yX12_root cX12_root 5 (some .int) :: wsM) { frames := 1, cells := 0, slots := 0, locals := 0 } (va_Pc [.int a0] (fun _ => True)) (vp_Si (fun r => r = r1)) 0 0 (fun _ => False) := by
  refine pro_in (cc := cX12_root) (maxL := 5) (ret := (some .int)) (by exact pn_RX12) rfl (by exact Nat.le_of_ble_eq_true rfl) (fun p e s m below meth c ls hx hb hr hts hown hlocks hml hv hl => ?_)
  have E : p.tables.exec = Jvm.exec ∧ c.code = cX12_root ∧ (∀ w ∈ (Cond.code yX12_root cX12_root 5 (some .int) :: wsM), w.before ([.int a0] : List Value).toArray s = true) ∧ s.vm.findClass RX12 = some m.cls := ⟨hx, hb, hts, hown⟩
  have hl : lv_has ls 5 [(0, .int a0)] := hl
  unfold fr_root at h
  refine lv_iconst (v := 0) hx hb dX12_root_0 (by decide) ?_
  refine lv_istore_n (lv' := [(1, .int 0), (0, .int a0)]) hx hb dX12_root_1 rfl hl (by decide) rfl (fun ls hl => ?_)
  refine lv_ldcw (v := 32768) hx hb hown (hts (.constant RX12 258 (32768)) (.tail _ qM_219)) dX12_root_2 ?_
  refine lv_istore_n (lv' := [(2, .int 32768), (1, .int 0), (0, .int a0)]) hx hb dX12_root_5 rfl hl (by decide) rfl (fun ls hl => ?_)
  have hl := lv_sub hl [2, 1, 0] rfl
  exact tr_root_b6 E hml (fun ls => W.iret (v := r1) hx hb hr (fun t ht hW => ⟨r1, rfl, rfl, ht⟩) (fun _ h => absurd h List.not_mem_nil) dX12_root_36) _ _ _ _ _ h hl
def fr_delayFrom (S : MS) (a0 : Int32) (a1 : Int32) (a2 : Int32) : Option (Int32 × MS) := elet (11 + a0) fun v2 => oif (inb v2 131 = true) <| elet (S.2.1 10 v2.toNatClampNeg) fun v4 => elet (a1 - v4) fun v5 => elet (23 + a0) fun v6 => oif (inb v6 131 = true) <| elet (S.2.1 10 v6.toNatClampNeg) fun v8 => elet (a2 - v8) fun v9 => elet (S.2.1 10 0) fun v10 => elet (v5 * v5) fun v11 => elet (v9 * v9) fun v12 => elet (v11 + v12) fun v13 => elet (v10 * v10) fun v14 => elet (v13 + v14) fun v15 => obind (fr_root v15) fun r16 => elet (S.2.1 10 1) fun v18 => oif (¬ v18 = 0) <| elet (r16 / v18) fun v20 => elet (S.2.1 10 1) fun v21 => oif (¬ v21 = 0) <| elet (v10 / v21) fun v23 => elet (v20 - v23) fun v24 => some (v24, S)
set_option maxHeartbeats 4000000 in
set_option maxRecDepth 100000 in
theorem tr_delayFrom (l : Launch) (D : va_G) (cI cJ cZ : ClassId) (ad : Nat → Nat) (S : MS) (a0 : Int32) (a1 : Int32) (a2 : Int32) {r1 : Int32} {S1 : MS} (h : fr_delayFrom S a0 a1 a2 = some (r1, S1)) : mCi l yX12_delayFrom (Cond.code yX12_delayFrom cX12_delayFrom 7 (some .int) :: wsM) 2 24 D cI cJ cZ ad S [.int a0, .int a1, .int a2] (fun r S9 => r = r1 ∧ S9 = S1) := by
  intro sz
  refine pro_in (cc := cX12_delayFrom) (maxL := 7) (ret := (some .int)) (by exact pn_RX12) rfl (by exact Nat.le_of_ble_eq_true rfl) (fun p e s m below meth c ls hx hb hr hts hown hlocks hml hv hl => ?_)
  obtain ⟨hsz, hP, hK, hD0, hR⟩ := hv
  subst hsz
  have hD := hD0.self (sz := s.heap.size)
  generalize hAe : va_A (MW cI cJ cZ ad S) s.heap.size = A at hD ⊢
  have hA : ∀ q : Nat, s.heap.size ≤ q → A q := fun q h => by rw [← hAe]; exact Or.inr h
  have G : mG D cI cJ cZ ad A s.heap s.heap [] S := ⟨hP, hD, va_S.rf⟩
  have E : mE p c cX12_delayFrom s m ([.ref (ad 0), .int a0, .int a1, .int a2] : List Value).toArray (Cond.code yX12_delayFrom cX12_delayFrom 7 (some .int) :: wsM) D cI cJ cZ := ⟨hx, hb, hts, hown, hK, fun w h => .tail _ (iM_x h)⟩
  have hl : lv_has ls 7 [(0, .ref (ad 0)), (1, .int a0), (2, .int a1), (3, .int a2)] := hl
  unfold fr_delayFrom at h
  refine lv_iload_n hx hb dX12_delayFrom_0 rfl (lv_at hl 2 rfl) ?_
  refine lv_aload_n hx hb dX12_delayFrom_1 rfl (lv_at hl 0 rfl) ?_
  refine m_get E G 10 (v := .ref (ad 10)) (by decide) (.tail _ qM_7) rfl dX12_delayFrom_2 rfl ?_
  refine lv_bipush (v := 11) hx hb dX12_delayFrom_5 (by decide) ?_
  refine lv_iload_n hx hb dX12_delayFrom_7 rfl (lv_at hl 1 rfl) ?_
  refine lv_iadd hx hb dX12_delayFrom_8 ?_
  refine lv_topi (fun v2 ev2 => ?_)
  have h := elet_at ev2 h
  clear ev2
  obtain ⟨g3, h⟩ := oif_some h
  refine m_iald E G 10 2 (n := 131) (k := v2.toNatClampNeg) rfl (inb_k g3).1 (inb_k g3).2 (by decide) dX12_delayFrom_9 ?_
  refine lv_topi (fun v4 ev4 => ?_)
  have h := elet_at ev4 h
  clear ev4
  refine lv_isub hx hb dX12_delayFrom_10 ?_
  refine lv_topi (fun v5 ev5 => ?_)
  have h := elet_at ev5 h
  clear ev5
  refine lv_istore (lv' := [(4, .int v5), (0, .ref (ad 0)), (1, .int a0), (2, .int a1), (3, .int a2)]) hx hb dX12_delayFrom_11 hl (by decide) rfl (fun ls hl => ?_)
  refine lv_iload_n hx hb dX12_delayFrom_13 rfl (lv_at hl 4 rfl) ?_
  refine lv_aload_n hx hb dX12_delayFrom_14 rfl (lv_at hl 1 rfl) ?_
  refine m_get E G 10 (v := .ref (ad 10)) (by decide) (.tail _ qM_7) rfl dX12_delayFrom_15 rfl ?_
  refine lv_bipush (v := 23) hx hb dX12_delayFrom_18 (by decide) ?_
  refine lv_iload_n hx hb dX12_delayFrom_20 rfl (lv_at hl 2 rfl) ?_
  refine lv_iadd hx hb dX12_delayFrom_21 ?_
  refine lv_topi (fun v6 ev6 => ?_)
  have h := elet_at ev6 h
  clear ev6
  obtain ⟨g7, h⟩ := oif_some h
  refine m_iald E G 10 2 (n := 131) (k := v6.toNatClampNeg) rfl (inb_k g7).1 (inb_k g7).2 (by decide) dX12_delayFrom_22 ?_
  refine lv_topi (fun v8 ev8 => ?_)
  have h := elet_at ev8 h
  clear ev8
  refine lv_isub hx hb dX12_delayFrom_23 ?_
  refine lv_topi (fun v9 ev9 => ?_)
  have h := elet_at ev9 h
  clear ev9
  refine lv_istore (lv' := [(5, .int v9), (4, .int v5), (0, .ref (ad 0)), (1, .int a0), (2, .int a1), (3, .int a2)]) hx hb dX12_delayFrom_24 hl (by decide) rfl (fun ls hl => ?_)
  refine lv_aload_n hx hb dX12_delayFrom_26 rfl (lv_at hl 2 rfl) ?_
  refine m_get E G 10 (v := .ref (ad 10)) (by decide) (.tail _ qM_7) rfl dX12_delayFrom_27 rfl ?_
  refine lv_iconst (v := 0) hx hb dX12_delayFrom_30 (by decide) ?_
  refine m_iald E G 10 2 (n := 131) (k := 0) rfl rfl (by decide) (by decide) dX12_delayFrom_31 ?_
  refine lv_topi (fun v10 ev10 => ?_)
  have h := elet_at ev10 h
  clear ev10
  refine lv_istore (lv' := [(6, .int v10), (5, .int v9), (4, .int v5), (0, .ref (ad 0)), (1, .int a0), (2, .int a1), (3, .int a2)]) hx hb dX12_delayFrom_32 hl (by decide) rfl (fun ls hl => ?_)
  refine lv_iload hx hb dX12_delayFrom_34 (lv_at hl 2 rfl) ?_
  refine lv_iload hx hb dX12_delayFrom_36 (lv_at hl 2 rfl) ?_
  refine lv_imul hx hb dX12_delayFrom_38 ?_
  refine lv_topi (fun v11 ev11 => ?_)
  have h := elet_at ev11 h
  clear ev11
  refine lv_iload hx hb dX12_delayFrom_39 (lv_at hl 1 rfl) ?_
  refine lv_iload hx hb dX12_delayFrom_41 (lv_at hl 1 rfl) ?_
  refine lv_imul hx hb dX12_delayFrom_43 ?_
  refine lv_topi (fun v12 ev12 => ?_)
  have h := elet_at ev12 h
  clear ev12
  refine lv_iadd hx hb dX12_delayFrom_44 ?_
  refine lv_topi (fun v13 ev13 => ?_)
  have h := elet_at ev13 h
  clear ev13
  refine lv_iload hx hb dX12_delayFrom_45 (lv_at hl 0 rfl) ?_
  refine lv_iload hx hb dX12_delayFrom_47 (lv_at hl 0 rfl) ?_
  refine lv_imul hx hb dX12_delayFrom_49 ?_
  refine lv_topi (fun v14 ev14 => ?_)
  have h := elet_at ev14 h
  clear ev14
  refine lv_iadd hx hb dX12_delayFrom_50 ?_
  refine lv_topi (fun v15 ev15 => ?_)
  have h := elet_at ev15 h
  clear ev15
  obtain ⟨r16, er16, h⟩ := obind_some h
  refine m_stat (As := [.int v15]) (rest := []) ⟨hx, hb, hml, hown, hts⟩ (tr_root l v15 er16) (cwS 1 hts (gmS qM_216 qM_217 qM_35 qM_218) rfl rfl rfl (by decide +kernel) ⟨Nat.le_of_ble_eq_true rfl, Nat.le_of_ble_eq_true rfl⟩) rfl hl.1 rfl (lv_room (Nat.le_of_ble_eq_true rfl)) dX12_delayFrom_51 ⟨Nat.zero_le _, Nat.zero_le _⟩ (fun q17 hq => ?_)
  refine lv_to hq ?_
  clear hq er16
  refine lv_aload_n hx hb dX12_delayFrom_54 rfl (lv_at hl 3 rfl) ?_
  refine m_get E G 10 (v := .ref (ad 10)) (by decide) (.tail _ qM_7) rfl dX12_delayFrom_55 rfl ?_
  refine lv_iconst (v := 1) hx hb dX12_delayFrom_58 (by decide) ?_
  refine m_iald E G 10 2 (n := 131) (k := 1) rfl rfl (by decide) (by decide) dX12_delayFrom_59 ?_
  refine lv_topi (fun v18 ev18 => ?_)
  have h := elet_at ev18 h
  clear ev18
  obtain ⟨g19, h⟩ := oif_some h
  refine lv_idiv hx hb dX12_delayFrom_60 g19 ?_
  refine lv_topi (fun v20 ev20 => ?_)
  have h := elet_at ev20 h
  clear ev20
  refine lv_iload hx hb dX12_delayFrom_61 (lv_at hl 0 rfl) ?_
  refine lv_aload_n hx hb dX12_delayFrom_63 rfl (lv_at hl 3 rfl) ?_
  refine m_get E G 10 (v := .ref (ad 10)) (by decide) (.tail _ qM_7) rfl dX12_delayFrom_64 rfl ?_
  refine lv_iconst (v := 1) hx hb dX12_delayFrom_67 (by decide) ?_
  refine m_iald E G 10 2 (n := 131) (k := 1) rfl rfl (by decide) (by decide) dX12_delayFrom_68 ?_
  refine lv_topi (fun v21 ev21 => ?_)
  have h := elet_at ev21 h
  clear ev21
  obtain ⟨g22, h⟩ := oif_some h
  refine lv_idiv hx hb dX12_delayFrom_69 g22 ?_
  refine lv_topi (fun v23 ev23 => ?_)
  have h := elet_at ev23 h
  clear ev23
  refine lv_isub hx hb dX12_delayFrom_70 ?_
  refine lv_topi (fun v24 ev24 => ?_)
  have h := elet_at ev24 h
  clear ev24
  exact W.iret (v := v24) hx hb hr (fun t ht hW => ⟨⟨v24, S, rfl, osome2 h, ⟨by rw [ht]; exact G.1, va_K.moved hW.alike hK, G.2.1⟩⟩, G.2.2.F ht⟩) G.2.2.2.2 dX12_delayFrom_71
def fr_wave_b103  (S : MS) (s0 : Int32) : Option (Int32 × MS) := some (s0, S)
set_option maxHeartbeats 4000000 in
set_option maxRecDepth 100000 in
theorem tr_wave_b103 {p : Program} {l : Launch} {e : Env} {s : State} {m : MethodId} {args : Array Value} {below : List Frame} {meth : Method} {c : Code} {Q : State → Prop} {D : va_G} {A : Nat → Prop} {H0 : Heap} {cI cJ cZ : ClassId} {ad : Nat → Nat} {r1 : Int32} {S1 : MS} (E : mE p c cX12_wave s m args (Cond.code yX12_wave cX12_wave 6 (some .int) :: wsM) D cI cJ cZ) (hA : ∀ q : Nat, H0.size ≤ q → A q) (hR : sR s) (hml : c.maxLocals = 6) (kr35 : ∀ (H : Heap) (locs : List Loc) (ls : Array Slot), mG D cI cJ cZ ad A H0 H locs S1 → W p l e { frames := 1, cells := 0, slots := 0, locals := 19 } s m args below meth c H locs 0 0 Q (F0 m 35 ls [.int r1])) (kr103 : ∀ (H : Heap) (locs : List Loc) (ls : Array Slot), mG D cI cJ cZ ad A H0 H locs S1 → W p l e { frames := 1, cells := 0, slots := 0, locals := 19 } s m args below meth c H locs 0 0 Q (F0 m 103 ls [.int r1])) (kr124 : ∀ (H : Heap) (locs : List Loc) (ls : Array Slot), mG D cI cJ cZ ad A H0 H locs S1 → W p l e { frames := 1, cells := 0, slots := 0, locals := 19 } s m args below meth c H locs 0 0 Q (F0 m 124 ls [.int r1])) (kr135 : ∀ (H : Heap) (locs : List Loc) (ls : Array Slot), mG D cI cJ cZ ad A H0 H locs S1 → W p l e { frames := 1, cells := 0, slots := 0, locals := 19 } s m args below meth c H locs 0 0 Q (F0 m 135 ls [.int r1])) (kr170 : ∀ (H : Heap) (locs : List Loc) (ls : Array Slot), mG D cI cJ cZ ad A H0 H locs S1 → W p l e { frames := 1, cells := 0, slots := 0, locals := 19 } s m args below meth c H locs 0 0 Q (F0 m 170 ls [.int r1])) : ∀ (S : MS) (H : Heap) (locs : List Loc) (ls : Array Slot) (s0 : Int32), fr_wave_b103 S s0 = some (r1, S1) → mG D cI cJ cZ ad A H0 H locs S → lv_has ls 6 [] → W p l e { frames := 1, cells := 0, slots := 0, locals := 19 } s m args below meth c H locs 0 0 Q (F0 m 103 ls [.int s0]) := by
  have hx := E.1
  have hb := E.2.1
  have hts := E.2.2.1
  have hown := E.2.2.2.1
  have hK := E.2.2.2.2.1
  intro S H locs ls s0 h G hl
  unfold fr_wave_b103 at h
  rw [(osome2 h).2] at G
  refine lv_to (osome2 h).1 ?_
  exact kr103 _ _ _ G
def fr_wave_b135  (S : MS) (s0 : Int32) : Option (Int32 × MS) := some (s0, S)
set_option maxHeartbeats 4000000 in
set_option maxRecDepth 100000 in
theorem tr_wave_b135 {p : Program} {l : Launch} {e : Env} {s : State} {m : MethodId} {args : Array Value} {below : List Frame} {meth : Method} {c : Code} {Q : State → Prop} {D : va_G} {A : Nat → Prop} {H0 : Heap} {cI cJ cZ : ClassId} {ad : Nat → Nat} {r1 : Int32} {S1 : MS} (E : mE p c cX12_wave s m args (Cond.code yX12_wave cX12_wave 6 (some .int) :: wsM) D cI cJ cZ) (hA : ∀ q : Nat, H0.size ≤ q → A q) (hR : sR s) (hml : c.maxLocals = 6) (kr35 : ∀ (H : Heap) (locs : List Loc) (ls : Array Slot), mG D cI cJ cZ ad A H0 H locs S1 → W p l e { frames := 1, cells := 0, slots := 0, locals := 19 } s m args below meth c H locs 0 0 Q (F0 m 35 ls [.int r1])) (kr103 : ∀ (H : Heap) (locs : List Loc) (ls : Array Slot), mG D cI cJ cZ ad A H0 H locs S1 → W p l e { frames := 1, cells := 0, slots := 0, locals := 19 } s m args below meth c H locs 0 0 Q (F0 m 103 ls [.int r1])) (kr124 : ∀ (H : Heap) (locs : List Loc) (ls : Array Slot), mG D cI cJ cZ ad A H0 H locs S1 → W p l e { frames := 1, cells := 0, slots := 0, locals := 19 } s m args below meth c H locs 0 0 Q (F0 m 124 ls [.int r1])) (kr135 : ∀ (H : Heap) (locs : List Loc) (ls : Array Slot), mG D cI cJ cZ ad A H0 H locs S1 → W p l e { frames := 1, cells := 0, slots := 0, locals := 19 } s m args below meth c H locs 0 0 Q (F0 m 135 ls [.int r1])) (kr170 : ∀ (H : Heap) (locs : List Loc) (ls : Array Slot), mG D cI cJ cZ ad A H0 H locs S1 → W p l e { frames := 1, cells := 0, slots := 0, locals := 19 } s m args below meth c H locs 0 0 Q (F0 m 170 ls [.int r1])) : ∀ (S : MS) (H : Heap) (locs : List Loc) (ls : Array Slot) (s0 : Int32), fr_wave_b135 S s0 = some (r1, S1) → mG D cI cJ cZ ad A H0 H locs S → lv_has ls 6 [] → W p l e { frames := 1, cells := 0, slots := 0, locals := 19 } s m args below meth c H locs 0 0 Q (F0 m 135 ls [.int s0]) := by
  have hx := E.1
  have hb := E.2.1
  have hts := E.2.2.1
  have hown := E.2.2.2.1
  have hK := E.2.2.2.2.1
  intro S H locs ls s0 h G hl
  unfold fr_wave_b135 at h
  rw [(osome2 h).2] at G
  refine lv_to (osome2 h).1 ?_
  exact kr135 _ _ _ G
def fr_wave (S : MS) (a0 : Int32) (a1 : Int32) : Option (Int32 × MS) := elet (53 + a0) fun v2 => oif (inb v2 131 = true) <| elet (S.2.1 10 v2.toNatClampNeg) fun v4 => elet (59 + a0) fun v5 => oif (inb v5 131 = true) <| elet (S.2.1 10 v5.toNatClampNeg) fun v7 => elet (95 + a0) fun v8 => oif (inb v8 131 = true) <| elet (S.2.1 10 v8.toNatClampNeg) fun v10 => if v10 ≤ a1 then (elet (65 + a0) fun v12 => oif (inb v12 131 = true) <| elet (S.2.1 10 v12.toNatClampNeg) fun v14 => elet (a1 + v14) fun v15 => oif (¬ v7 = 0) <| elet (v15 - v15 / v7 * v7) fun v17 => elet (47 + a0) fun v18 => oif (inb v18 131 = true) <| elet (S.2.1 10 v18.toNatClampNeg) fun v20 => if v20 = 0 then (elet (v7 / 2) fun v22 => if v22 ≤ v17 then (elet (-v4) fun v24 => fr_wave_b103 S v24) else (fr_wave_b103 S v4)) else (if v20 = 1 then (elet (v7 / 2) fun v26 => elet (v17 - v26) fun v27 => elet (if 0 ≤ v27 then v27 else 0 - v27) fun v28 => elet (4 * v28) fun v29 => elet (v29 - v7) fun v30 => elet (v4 * v30) fun v31 => oif (¬ v7 = 0) <| elet (v31 / v7) fun v33 => some (v33, S)) else (if v20 = 2 then (if v17 = 0 then (fr_wave_b135 S v4) else (fr_wave_b135 S 0)) else (elet (31 * a1) fun v36 => elet (v36 * a1) fun v37 => elet (7919 * a1) fun v38 => elet (v37 + v38) fun v39 => elet (65 + a0) fun v40 => oif (inb v40 131 = true) <| elet (S.2.1 10 v40.toNatClampNeg) fun v42 => elet (104729 * v42) fun v43 => elet (v39 + v43) fun v44 => elet (2 * v4) fun v45 => elet (v45 + 1) fun v46 => oif (¬ v46 = 0) <| elet (v44 - v44 / v46 * v46) fun v48 => elet (v48 - v4) fun v49 => some (v49, S))))) else (some (0, S))
set_option maxHeartbeats 4000000 in
set_option maxRecDepth 100000 in
theorem tr_wave (l : Launch) (D : va_G) (cI cJ cZ : ClassId) (ad : Nat → Nat) (S : MS) (a0 : Int32) (a1 : Int32) {r1 : Int32} {S1 : MS} (h : fr_wave S a0 a1 = some (r1, S1)) : mCi l yX12_wave (Cond.code yX12_wave cX12_wave 6 (some .int) :: wsM) 1 19 D cI cJ cZ ad S [.int a0, .int a1] (fun r S9 => r = r1 ∧ S9 = S1) := by
  intro sz
  refine pro_in (cc := cX12_wave) (maxL := 6) (ret := (some .int)) (by exact pn_RX12) rfl (by exact Nat.le_of_ble_eq_true rfl) (fun p e s m below meth c ls hx hb hr hts hown hlocks hml hv hl => ?_)
  obtain ⟨hsz, hP, hK, hD0, hR⟩ := hv
  subst hsz
  have hD := hD0.self (sz := s.heap.size)
  generalize hAe : va_A (MW cI cJ cZ ad S) s.heap.size = A at hD ⊢
  have hA : ∀ q : Nat, s.heap.size ≤ q → A q := fun q h => by rw [← hAe]; exact Or.inr h
  have G : mG D cI cJ cZ ad A s.heap s.heap [] S := ⟨hP, hD, va_S.rf⟩
  have E : mE p c cX12_wave s m ([.ref (ad 0), .int a0, .int a1] : List Value).toArray (Cond.code yX12_wave cX12_wave 6 (some .int) :: wsM) D cI cJ cZ := ⟨hx, hb, hts, hown, hK, fun w h => .tail _ (iM_x h)⟩
  have hl : lv_has ls 6 [(0, .ref (ad 0)), (1, .int a0), (2, .int a1)] := hl
  unfold fr_wave at h
  refine lv_aload_n hx hb dX12_wave_0 rfl (lv_at hl 0 rfl) ?_
  refine m_get E G 10 (v := .ref (ad 10)) (by decide) (.tail _ qM_7) rfl dX12_wave_1 rfl ?_
  refine lv_bipush (v := 53) hx hb dX12_wave_4 (by decide) ?_
  refine lv_iload_n hx hb dX12_wave_6 rfl (lv_at hl 1 rfl) ?_
  refine lv_iadd hx hb dX12_wave_7 ?_
  refine lv_topi (fun v2 ev2 => ?_)
  have h := elet_at ev2 h
  clear ev2
  obtain ⟨g3, h⟩ := oif_some h
  refine m_iald E G 10 2 (n := 131) (k := v2.toNatClampNeg) rfl (inb_k g3).1 (inb_k g3).2 (by decide) dX12_wave_8 ?_
  refine lv_topi (fun v4 ev4 => ?_)
  have h := elet_at ev4 h
  clear ev4
  refine lv_istore_n (lv' := [(3, .int v4), (0, .ref (ad 0)), (1, .int a0), (2, .int a1)]) hx hb dX12_wave_9 rfl hl (by decide) rfl (fun ls hl => ?_)
  refine lv_aload_n hx hb dX12_wave_10 rfl (lv_at hl 1 rfl) ?_
  refine m_get E G 10 (v := .ref (ad 10)) (by decide) (.tail _ qM_7) rfl dX12_wave_11 rfl ?_
  refine lv_bipush (v := 59) hx hb dX12_wave_14 (by decide) ?_
  refine lv_iload_n hx hb dX12_wave_16 rfl (lv_at hl 2 rfl) ?_
  refine lv_iadd hx hb dX12_wave_17 ?_
  refine lv_topi (fun v5 ev5 => ?_)
  have h := elet_at ev5 h
  clear ev5
  obtain ⟨g6, h⟩ := oif_some h
  refine m_iald E G 10 2 (n := 131) (k := v5.toNatClampNeg) rfl (inb_k g6).1 (inb_k g6).2 (by decide) dX12_wave_18 ?_
  refine lv_topi (fun v7 ev7 => ?_)
  have h := elet_at ev7 h
  clear ev7
  refine lv_istore (lv' := [(4, .int v7), (3, .int v4), (0, .ref (ad 0)), (1, .int a0), (2, .int a1)]) hx hb dX12_wave_19 hl (by decide) rfl (fun ls hl => ?_)
  refine lv_iload_n hx hb dX12_wave_21 rfl (lv_at hl 4 rfl) ?_
  refine lv_aload_n hx hb dX12_wave_22 rfl (lv_at hl 2 rfl) ?_
  refine m_get E G 10 (v := .ref (ad 10)) (by decide) (.tail _ qM_7) rfl dX12_wave_23 rfl ?_
  refine lv_bipush (v := 95) hx hb dX12_wave_26 (by decide) ?_
  refine lv_iload_n hx hb dX12_wave_28 rfl (lv_at hl 3 rfl) ?_
  refine lv_iadd hx hb dX12_wave_29 ?_
  refine lv_topi (fun v8 ev8 => ?_)
  have h := elet_at ev8 h
  clear ev8
  obtain ⟨g9, h⟩ := oif_some h
  refine m_iald E G 10 2 (n := 131) (k := v8.toNatClampNeg) rfl (inb_k g9).1 (inb_k g9).2 (by decide) dX12_wave_30 ?_
  refine lv_topi (fun v10 ev10 => ?_)
  have h := elet_at ev10 h
  clear ev10
  refine lv_icmp_ge (tgt := 36) hx hb dX12_wave_31 (by decide) (fun c11 => ?_) (fun c11 => ?_)
  · have h := oif_pos c11 h
    refine lv_iload_n hx hb dX12_wave_36 rfl (lv_at hl 4 rfl) ?_
    refine lv_aload_n hx hb dX12_wave_37 rfl (lv_at hl 2 rfl) ?_
    refine m_get E G 10 (v := .ref (ad 10)) (by decide) (.tail _ qM_7) rfl dX12_wave_38 rfl ?_
    refine lv_bipush (v := 65) hx hb dX12_wave_41 (by decide) ?_
    refine lv_iload_n hx hb dX12_wave_43 rfl (lv_at hl 3 rfl) ?_
    refine lv_iadd hx hb dX12_wave_44 ?_
    refine lv_topi (fun v12 ev12 => ?_)
    have h := elet_at ev12 h
    clear ev12
    obtain ⟨g13, h⟩ := oif_some h
    refine m_iald E G 10 2 (n := 131) (k := v12.toNatClampNeg) rfl (inb_k g13).1 (inb_k g13).2 (by decide) dX12_wave_45 ?_
    refine lv_topi (fun v14 ev14 => ?_)
    have h := elet_at ev14 h
    clear ev14
    refine lv_iadd hx hb dX12_wave_46 ?_
    refine lv_topi (fun v15 ev15 => ?_)
    have h := elet_at ev15 h
    clear ev15
    refine lv_iload hx hb dX12_wave_47 (lv_at hl 0 rfl) ?_
    obtain ⟨g16, h⟩ := oif_some h
    refine lv_irem hx hb dX12_wave_49 g16 ?_
    refine lv_topi (fun v17 ev17 => ?_)
    have h := elet_at ev17 h
    clear ev17
    refine lv_istore (lv' := [(5, .int v17), (4, .int v7), (3, .int v4), (0, .ref (ad 0)), (1, .int a0), (2, .int a1)]) hx hb dX12_wave_50 hl (by decide) rfl (fun ls hl => ?_)
    refine lv_aload_n hx hb dX12_wave_52 rfl (lv_at hl 3 rfl) ?_
    refine m_get E G 10 (v := .ref (ad 10)) (by decide) (.tail _ qM_7) rfl dX12_wave_53 rfl ?_
    refine lv_bipush (v := 47) hx hb dX12_wave_56 (by decide) ?_
    refine lv_iload_n hx hb dX12_wave_58 rfl (lv_at hl 4 rfl) ?_
    refine lv_iadd hx hb dX12_wave_59 ?_
    refine lv_topi (fun v18 ev18 => ?_)
    have h := elet_at ev18 h
    clear ev18
    obtain ⟨g19, h⟩ := oif_some h
    refine m_iald E G 10 2 (n := 131) (k := v18.toNatClampNeg) rfl (inb_k g19).1 (inb_k g19).2 (by decide) dX12_wave_60 ?_
    refine lv_topi (fun v20 ev20 => ?_)
    have h := elet_at ev20 h
    clear ev20
    by_cases c21 : v20 = 0
    · have h := oif_pos c21 h
      refine lv_tableIn (off := 27) (tgt := 88) hx hb dX12_wave_61 (by rw [c21]; decide) (by rw [c21]; decide) (by rw [c21]; rfl) (by decide) ?_
      refine lv_iload hx hb dX12_wave_88 (lv_at hl 0 rfl) ?_
      refine lv_iload hx hb dX12_wave_90 (lv_at hl 1 rfl) ?_
      refine lv_iconst (v := 2) hx hb dX12_wave_92 (by decide) ?_
      refine lv_idiv hx hb dX12_wave_93 (by decide) ?_
      refine lv_topi (fun v22 ev22 => ?_)
      have h := elet_at ev22 h
      clear ev22
      refine lv_icmp_ge (tgt := 101) hx hb dX12_wave_94 (by decide) (fun c23 => ?_) (fun c23 => ?_)
      · have h := oif_pos c23 h
        refine lv_iload_n hx hb dX12_wave_101 rfl (lv_at hl 2 rfl) ?_
        refine lv_ineg hx hb dX12_wave_102 ?_
        refine lv_topi (fun v24 ev24 => ?_)
        have h := elet_at ev24 h
        clear ev24
        have hl := lv_sub hl [] rfl
        exact tr_wave_b103 E hA hR hml (fun H locs ls G => W.iret (v := r1) hx hb hr (fun t ht hW => ⟨⟨r1, S1, rfl, ⟨rfl, rfl⟩, ⟨by rw [ht]; exact G.1, va_K.moved hW.alike hK, G.2.1⟩⟩, G.2.2.F ht⟩) G.2.2.2.2 dX12_wave_35) (fun H locs ls G => W.iret (v := r1) hx hb hr (fun t ht hW => ⟨⟨r1, S1, rfl, ⟨rfl, rfl⟩, ⟨by rw [ht]; exact G.1, va_K.moved hW.alike hK, G.2.1⟩⟩, G.2.2.F ht⟩) G.2.2.2.2 dX12_wave_103) (fun H locs ls G => W.iret (v := r1) hx hb hr (fun t ht hW => ⟨⟨r1, S1, rfl, ⟨rfl, rfl⟩, ⟨by rw [ht]; exact G.1, va_K.moved hW.alike hK, G.2.1⟩⟩, G.2.2.F ht⟩) G.2.2.2.2 dX12_wave_124) (fun H locs ls G => W.iret (v := r1) hx hb hr (fun t ht hW => ⟨⟨r1, S1, rfl, ⟨rfl, rfl⟩, ⟨by rw [ht]; exact G.1, va_K.moved hW.alike hK, G.2.1⟩⟩, G.2.2.F ht⟩) G.2.2.2.2 dX12_wave_135) (fun H locs ls G => W.iret (v := r1) hx hb hr (fun t ht hW => ⟨⟨r1, S1, rfl, ⟨rfl, rfl⟩, ⟨by rw [ht]; exact G.1, va_K.moved hW.alike hK, G.2.1⟩⟩, G.2.2.F ht⟩) G.2.2.2.2 dX12_wave_170) _ _ _ _ _ h G hl
      · have h := oif_neg c23 h
        refine lv_iload_n hx hb dX12_wave_97 rfl (lv_at hl 2 rfl) ?_
        refine lv_goto (tgt := 103) hx hb dX12_wave_98 (by decide) ?_
        have hl := lv_sub hl [] rfl
        exact tr_wave_b103 E hA hR hml (fun H locs ls G => W.iret (v := r1) hx hb hr (fun t ht hW => ⟨⟨r1, S1, rfl, ⟨rfl, rfl⟩, ⟨by rw [ht]; exact G.1, va_K.moved hW.alike hK, G.2.1⟩⟩, G.2.2.F ht⟩) G.2.2.2.2 dX12_wave_35) (fun H locs ls G => W.iret (v := r1) hx hb hr (fun t ht hW => ⟨⟨r1, S1, rfl, ⟨rfl, rfl⟩, ⟨by rw [ht]; exact G.1, va_K.moved hW.alike hK, G.2.1⟩⟩, G.2.2.F ht⟩) G.2.2.2.2 dX12_wave_103) (fun H locs ls G => W.iret (v := r1) hx hb hr (fun t ht hW => ⟨⟨r1, S1, rfl, ⟨rfl, rfl⟩, ⟨by rw [ht]; exact G.1, va_K.moved hW.alike hK, G.2.1⟩⟩, G.2.2.F ht⟩) G.2.2.2.2 dX12_wave_124) (fun H locs ls G => W.iret (v := r1) hx hb hr (fun t ht hW => ⟨⟨r1, S1, rfl, ⟨rfl, rfl⟩, ⟨by rw [ht]; exact G.1, va_K.moved hW.alike hK, G.2.1⟩⟩, G.2.2.F ht⟩) G.2.2.2.2 dX12_wave_135) (fun H locs ls G => W.iret (v := r1) hx hb hr (fun t ht hW => ⟨⟨r1, S1, rfl, ⟨rfl, rfl⟩, ⟨by rw [ht]; exact G.1, va_K.moved hW.alike hK, G.2.1⟩⟩, G.2.2.F ht⟩) G.2.2.2.2 dX12_wave_170) _ _ _ _ _ h G hl
    have h := oif_neg c21 h
    by_cases c25 : v20 = 1
    · have h := oif_pos c25 h
      refine lv_tableIn (off := 43) (tgt := 104) hx hb dX12_wave_61 (by rw [c25]; decide) (by rw [c25]; decide) (by rw [c25]; rfl) (by decide) ?_
      refine lv_iload_n hx hb dX12_wave_104 rfl (lv_at hl 2 rfl) ?_
      refine lv_iconst (v := 4) hx hb dX12_wave_105 (by decide) ?_
      refine lv_iload hx hb dX12_wave_106 (lv_at hl 0 rfl) ?_
      refine lv_iload hx hb dX12_wave_108 (lv_at hl 1 rfl) ?_
      refine lv_iconst (v := 2) hx hb dX12_wave_110 (by decide) ?_
      refine lv_idiv hx hb dX12_wave_111 (by decide) ?_
      refine lv_topi (fun v26 ev26 => ?_)
      have h := elet_at ev26 h
      clear ev26
      refine lv_isub hx hb dX12_wave_112 ?_
      refine lv_topi (fun v27 ev27 => ?_)
      have h := elet_at ev27 h
      clear ev27
      refine va_mabs hx hb (hml.trans hl.1.symm) hown (hts _ (.tail _ qM_245)) (hts _ (.tail _ qM_246)) (hts _ (.tail _ qM_247)) (hts _ (.tail _ qM_248)) (Nat.le_of_ble_eq_true rfl) (Nat.le_of_ble_eq_true rfl) (Nat.zero_le _) (Nat.zero_le _) dX12_wave_113 ?_
      refine lv_topi (fun v28 ev28 => ?_)
      have h := elet_at ev28 h
      clear ev28
      refine lv_imul hx hb dX12_wave_116 ?_
      refine lv_topi (fun v29 ev29 => ?_)
      have h := elet_at ev29 h
      clear ev29
      refine lv_iload hx hb dX12_wave_117 (lv_at hl 1 rfl) ?_
      refine lv_isub hx hb dX12_wave_119 ?_
      refine lv_topi (fun v30 ev30 => ?_)
      have h := elet_at ev30 h
      clear ev30
      refine lv_imul hx hb dX12_wave_120 ?_
      refine lv_topi (fun v31 ev31 => ?_)
      have h := elet_at ev31 h
      clear ev31
      refine lv_iload hx hb dX12_wave_121 (lv_at hl 1 rfl) ?_
      obtain ⟨g32, h⟩ := oif_some h
      refine lv_idiv hx hb dX12_wave_123 g32 ?_
      refine lv_topi (fun v33 ev33 => ?_)
      have h := elet_at ev33 h
      clear ev33
      exact W.iret (v := v33) hx hb hr (fun t ht hW => ⟨⟨v33, S, rfl, osome2 h, ⟨by rw [ht]; exact G.1, va_K.moved hW.alike hK, G.2.1⟩⟩, G.2.2.F ht⟩) G.2.2.2.2 dX12_wave_124
    have h := oif_neg c25 h
    by_cases c34 : v20 = 2
    · have h := oif_pos c34 h
      refine lv_tableIn (off := 64) (tgt := 125) hx hb dX12_wave_61 (by rw [c34]; decide) (by rw [c34]; decide) (by rw [c34]; rfl) (by decide) ?_
      refine lv_iload hx hb dX12_wave_125 (lv_at hl 0 rfl) ?_
      refine lv_if_ne (tgt := 134) hx hb dX12_wave_127 (by decide) (fun c35 => ?_) (fun c35 => ?_)
      · have h := oif_neg c35 h
        refine lv_iconst (v := 0) hx hb dX12_wave_134 (by decide) ?_
        have hl := lv_sub hl [] rfl
        exact tr_wave_b135 E hA hR hml (fun H locs ls G => W.iret (v := r1) hx hb hr (fun t ht hW => ⟨⟨r1, S1, rfl, ⟨rfl, rfl⟩, ⟨by rw [ht]; exact G.1, va_K.moved hW.alike hK, G.2.1⟩⟩, G.2.2.F ht⟩) G.2.2.2.2 dX12_wave_35) (fun H locs ls G => W.iret (v := r1) hx hb hr (fun t ht hW => ⟨⟨r1, S1, rfl, ⟨rfl, rfl⟩, ⟨by rw [ht]; exact G.1, va_K.moved hW.alike hK, G.2.1⟩⟩, G.2.2.F ht⟩) G.2.2.2.2 dX12_wave_103) (fun H locs ls G => W.iret (v := r1) hx hb hr (fun t ht hW => ⟨⟨r1, S1, rfl, ⟨rfl, rfl⟩, ⟨by rw [ht]; exact G.1, va_K.moved hW.alike hK, G.2.1⟩⟩, G.2.2.F ht⟩) G.2.2.2.2 dX12_wave_124) (fun H locs ls G => W.iret (v := r1) hx hb hr (fun t ht hW => ⟨⟨r1, S1, rfl, ⟨rfl, rfl⟩, ⟨by rw [ht]; exact G.1, va_K.moved hW.alike hK, G.2.1⟩⟩, G.2.2.F ht⟩) G.2.2.2.2 dX12_wave_135) (fun H locs ls G => W.iret (v := r1) hx hb hr (fun t ht hW => ⟨⟨r1, S1, rfl, ⟨rfl, rfl⟩, ⟨by rw [ht]; exact G.1, va_K.moved hW.alike hK, G.2.1⟩⟩, G.2.2.F ht⟩) G.2.2.2.2 dX12_wave_170) _ _ _ _ _ h G hl
      · have h := oif_pos c35 h
        refine lv_iload_n hx hb dX12_wave_130 rfl (lv_at hl 2 rfl) ?_
        refine lv_goto (tgt := 135) hx hb dX12_wave_131 (by decide) ?_
        have hl := lv_sub hl [] rfl
        exact tr_wave_b135 E hA hR hml (fun H locs ls G => W.iret (v := r1) hx hb hr (fun t ht hW => ⟨⟨r1, S1, rfl, ⟨rfl, rfl⟩, ⟨by rw [ht]; exact G.1, va_K.moved hW.alike hK, G.2.1⟩⟩, G.2.2.F ht⟩) G.2.2.2.2 dX12_wave_35) (fun H locs ls G => W.iret (v := r1) hx hb hr (fun t ht hW => ⟨⟨r1, S1, rfl, ⟨rfl, rfl⟩, ⟨by rw [ht]; exact G.1, va_K.moved hW.alike hK, G.2.1⟩⟩, G.2.2.F ht⟩) G.2.2.2.2 dX12_wave_103) (fun H locs ls G => W.iret (v := r1) hx hb hr (fun t ht hW => ⟨⟨r1, S1, rfl, ⟨rfl, rfl⟩, ⟨by rw [ht]; exact G.1, va_K.moved hW.alike hK, G.2.1⟩⟩, G.2.2.F ht⟩) G.2.2.2.2 dX12_wave_124) (fun H locs ls G => W.iret (v := r1) hx hb hr (fun t ht hW => ⟨⟨r1, S1, rfl, ⟨rfl, rfl⟩, ⟨by rw [ht]; exact G.1, va_K.moved hW.alike hK, G.2.1⟩⟩, G.2.2.F ht⟩) G.2.2.2.2 dX12_wave_135) (fun H locs ls G => W.iret (v := r1) hx hb hr (fun t ht hW => ⟨⟨r1, S1, rfl, ⟨rfl, rfl⟩, ⟨by rw [ht]; exact G.1, va_K.moved hW.alike hK, G.2.1⟩⟩, G.2.2.F ht⟩) G.2.2.2.2 dX12_wave_170) _ _ _ _ _ h G hl
    have h := oif_neg c34 h
    refine lv_tableOut (tgt := 136) hx hb dX12_wave_61 (tsw_0_2 c21 c25 c34) (by decide) ?_
    refine lv_bipush (v := 31) hx hb dX12_wave_136 (by decide) ?_
    refine lv_iload_n hx hb dX12_wave_138 rfl (lv_at hl 5 rfl) ?_
    refine lv_imul hx hb dX12_wave_139 ?_
    refine lv_topi (fun v36 ev36 => ?_)
    have h := elet_at ev36 h
    clear ev36
    refine lv_iload_n hx hb dX12_wave_140 rfl (lv_at hl 5 rfl) ?_
    refine lv_imul hx hb dX12_wave_141 ?_
    refine lv_topi (fun v37 ev37 => ?_)
    have h := elet_at ev37 h
    clear ev37
    refine lv_sipush (v := 7919) hx hb dX12_wave_142 (by decide) ?_
    refine lv_iload_n hx hb dX12_wave_145 rfl (lv_at hl 5 rfl) ?_
    refine lv_imul hx hb dX12_wave_146 ?_
    refine lv_topi (fun v38 ev38 => ?_)
    have h := elet_at ev38 h
    clear ev38
    refine lv_iadd hx hb dX12_wave_147 ?_
    refine lv_topi (fun v39 ev39 => ?_)
    have h := elet_at ev39 h
    clear ev39
    refine lv_ldcw (v := 104729) hx hb hown (hts (.constant RX12 267 (104729)) (.tail _ qM_249)) dX12_wave_148 ?_
    refine lv_aload_n hx hb dX12_wave_151 rfl (lv_at hl 3 rfl) ?_
    refine m_get E G 10 (v := .ref (ad 10)) (by decide) (.tail _ qM_7) rfl dX12_wave_152 rfl ?_
    refine lv_bipush (v := 65) hx hb dX12_wave_155 (by decide) ?_
    refine lv_iload_n hx hb dX12_wave_157 rfl (lv_at hl 4 rfl) ?_
    refine lv_iadd hx hb dX12_wave_158 ?_
    refine lv_topi (fun v40 ev40 => ?_)
    have h := elet_at ev40 h
    clear ev40
    obtain ⟨g41, h⟩ := oif_some h
    refine m_iald E G 10 2 (n := 131) (k := v40.toNatClampNeg) rfl (inb_k g41).1 (inb_k g41).2 (by decide) dX12_wave_159 ?_
    refine lv_topi (fun v42 ev42 => ?_)
    have h := elet_at ev42 h
    clear ev42
    refine lv_imul hx hb dX12_wave_160 ?_
    refine lv_topi (fun v43 ev43 => ?_)
    have h := elet_at ev43 h
    clear ev43
    refine lv_iadd hx hb dX12_wave_161 ?_
    refine lv_topi (fun v44 ev44 => ?_)
    have h := elet_at ev44 h
    clear ev44
    refine lv_iconst (v := 2) hx hb dX12_wave_162 (by decide) ?_
    refine lv_iload_n hx hb dX12_wave_163 rfl (lv_at hl 2 rfl) ?_
    refine lv_imul hx hb dX12_wave_164 ?_
    refine lv_topi (fun v45 ev45 => ?_)
    have h := elet_at ev45 h
    clear ev45
    refine lv_iconst (v := 1) hx hb dX12_wave_165 (by decide) ?_
    refine lv_iadd hx hb dX12_wave_166 ?_
    refine lv_topi (fun v46 ev46 => ?_)
    have h := elet_at ev46 h
    clear ev46
    obtain ⟨g47, h⟩ := oif_some h
    refine lv_irem hx hb dX12_wave_167 g47 ?_
    refine lv_topi (fun v48 ev48 => ?_)
    have h := elet_at ev48 h
    clear ev48
    refine lv_iload_n hx hb dX12_wave_168 rfl (lv_at hl 2 rfl) ?_
    refine lv_isub hx hb dX12_wave_169 ?_
    refine lv_topi (fun v49 ev49 => ?_)
    have h := elet_at ev49 h
    clear ev49
    exact W.iret (v := v49) hx hb hr (fun t ht hW => ⟨⟨v49, S, rfl, osome2 h, ⟨by rw [ht]; exact G.1, va_K.moved hW.alike hK, G.2.1⟩⟩, G.2.2.F ht⟩) G.2.2.2.2 dX12_wave_170
  · have h := oif_neg c11 h
    refine lv_iconst (v := 0) hx hb dX12_wave_34 (by decide) ?_
    exact W.iret (v := 0) hx hb hr (fun t ht hW => ⟨⟨0, S, rfl, osome2 h, ⟨by rw [ht]; exact G.1, va_K.moved hW.alike hK, G.2.1⟩⟩, G.2.2.F ht⟩) G.2.2.2.2 dX12_wave_35
end
section
/-! 11e.dec3.lean.txt -/
def fr_waveNow_b39  (S : MS) (s0 : Int32) : Option (Int32 × MS) := some (s0, S)
set_option maxHeartbeats 4000000 in
set_option maxRecDepth 100000 in
theorem tr_waveNow_b39 {p : Program} {l : Launch} {e : Env} {s : State} {m : MethodId} {args : Array Value} {below : List Frame} {meth : Method} {c : Code} {Q : State → Prop} {D : va_G} {A : Nat → Prop} {H0 : Heap} {cI cJ cZ : ClassId} {ad : Nat → Nat} {r1 : Int32} {S1 : MS} (E : mE p c cX12_waveNow s m args (Cond.code yX12_waveNow cX12_waveNow 3 (some .int) :: wsM) D cI cJ cZ) (hA : ∀ q : Nat, H0.size ≤ q → A q) (hR : sR s) (hml : c.maxLocals = 3) (kr39 : ∀ (H : Heap) (locs : List Loc) (ls : Array Slot), mG D cI cJ cZ ad A H0 H locs S1 → W p l e { frames := 2, cells := 0, slots := 0, locals := 44 } s m args below meth c H locs 0 0 Q (F0 m 39 ls [.int r1])) : ∀ (S : MS) (H : Heap) (locs : List Loc) (ls : Array Slot) (s0 : Int32), fr_waveNow_b39 S s0 = some (r1, S1) → mG D cI cJ cZ ad A H0 H locs S → lv_has ls 3 [] → W p l e { frames := 2, cells := 0, slots := 0, locals := 44 } s m args below meth c H locs 0 0 Q (F0 m 39 ls [.int s0]) := by
  have hx := E.1
  have hb := E.2.1
  have hts := E.2.2.1
  have hown := E.2.2.2.1
  have hK := E.2.2.2.2.1
  intro S H locs ls s0 h G hl
  unfold fr_waveNow_b39 at h
  rw [(osome2 h).2] at G
  refine lv_to (osome2 h).1 ?_
  exact kr39 _ _ _ G
def fr_waveNow (S : MS) (a0 : Int32) (a1 : Int32) : Option (Int32 × MS) := elet (S.1 21) fun v2 => if v2 = (-1) then (obind2 (fr_wave S a0 a1) fun r7 S4 => fr_waveNow_b39 S4 r7) else (elet (S.1 22) fun v8 => oif (¬ v8 = 0) <| elet (a1 - a1 / v8 * v8) fun v10 => elet (S.1 22) fun v11 => elet (v11 / 2) fun v12 => if v12 ≤ v10 then (fr_waveNow_b39 S (-100)) else (fr_waveNow_b39 S 100))
set_option maxHeartbeats 4000000 in
set_option maxRecDepth 100000 in
theorem tr_waveNow (l : Launch) (D : va_G) (cI cJ cZ : ClassId) (ad : Nat → Nat) (S : MS) (a0 : Int32) (a1 : Int32) {r1 : Int32} {S1 : MS} (h : fr_waveNow S a0 a1 = some (r1, S1)) : mCi l yX12_waveNow (Cond.code yX12_waveNow cX12_waveNow 3 (some .int) :: wsM) 2 44 D cI cJ cZ ad S [.int a0, .int a1] (fun r S9 => r = r1 ∧ S9 = S1) := by
  intro sz
  refine pro_in (cc := cX12_waveNow) (maxL := 3) (ret := (some .int)) (by exact pn_RX12) rfl (by exact Nat.le_of_ble_eq_true rfl) (fun p e s m below meth c ls hx hb hr hts hown hlocks hml hv hl => ?_)
  obtain ⟨hsz, hP, hK, hD0, hR⟩ := hv
  subst hsz
  have hD := hD0.self (sz := s.heap.size)
  generalize hAe : va_A (MW cI cJ cZ ad S) s.heap.size = A at hD ⊢
  have hA : ∀ q : Nat, s.heap.size ≤ q → A q := fun q h => by rw [← hAe]; exact Or.inr h
  have G : mG D cI cJ cZ ad A s.heap s.heap [] S := ⟨hP, hD, va_S.rf⟩
  have E : mE p c cX12_waveNow s m ([.ref (ad 0), .int a0, .int a1] : List Value).toArray (Cond.code yX12_waveNow cX12_waveNow 3 (some .int) :: wsM) D cI cJ cZ := ⟨hx, hb, hts, hown, hK, fun w h => .tail _ (iM_x h)⟩
  have hl : lv_has ls 3 [(0, .ref (ad 0)), (1, .int a0), (2, .int a1)] := hl
  unfold fr_waveNow at h
  refine lv_aload_n hx hb dX12_waveNow_0 rfl (lv_at hl 0 rfl) ?_
  refine m_get E G 21 (v := .int (S.1 21)) (by decide) (.tail _ qM_17) rfl dX12_waveNow_1 rfl ?_
  refine lv_topi (fun v2 ev2 => ?_)
  have h := elet_at ev2 h
  clear ev2
  refine lv_iconst (v := (-1)) hx hb dX12_waveNow_4 (by decide) ?_
  refine lv_icmp_ne (tgt := 17) hx hb dX12_waveNow_5 (by decide) (fun c3 => ?_) (fun c3 => ?_)
  · have h := oif_neg c3 h
    refine lv_iload_n hx hb dX12_waveNow_17 rfl (lv_at hl 2 rfl) ?_
    refine lv_aload_n hx hb dX12_waveNow_18 rfl (lv_at hl 0 rfl) ?_
    refine m_get E G 22 (v := .int (S.1 22)) (by decide) (.tail _ qM_240) rfl dX12_waveNow_19 rfl ?_
    refine lv_topi (fun v8 ev8 => ?_)
    have h := elet_at ev8 h
    clear ev8
    obtain ⟨g9, h⟩ := oif_some h
    refine lv_irem hx hb dX12_waveNow_22 g9 ?_
    refine lv_topi (fun v10 ev10 => ?_)
    have h := elet_at ev10 h
    clear ev10
    refine lv_aload_n hx hb dX12_waveNow_23 rfl (lv_at hl 0 rfl) ?_
    refine m_get E G 22 (v := .int (S.1 22)) (by decide) (.tail _ qM_240) rfl dX12_waveNow_24 rfl ?_
    refine lv_topi (fun v11 ev11 => ?_)
    have h := elet_at ev11 h
    clear ev11
    refine lv_iconst (v := 2) hx hb dX12_waveNow_27 (by decide) ?_
    refine lv_idiv hx hb dX12_waveNow_28 (by decide) ?_
    refine lv_topi (fun v12 ev12 => ?_)
    have h := elet_at ev12 h
    clear ev12
    refine lv_icmp_ge (tgt := 37) hx hb dX12_waveNow_29 (by decide) (fun c13 => ?_) (fun c13 => ?_)
    · have h := oif_pos c13 h
      refine lv_bipush (v := (-100)) hx hb dX12_waveNow_37 (by decide) ?_
      have hl := lv_sub hl [] rfl
      exact tr_waveNow_b39 E hA hR hml (fun H locs ls G => W.iret (v := r1) hx hb hr (fun t ht hW => ⟨⟨r1, S1, rfl, ⟨rfl, rfl⟩, ⟨by rw [ht]; exact G.1, va_K.moved hW.alike hK, G.2.1⟩⟩, G.2.2.F ht⟩) G.2.2.2.2 dX12_waveNow_39) _ _ _ _ _ h G hl
    · have h := oif_neg c13 h
      refine lv_bipush (v := 100) hx hb dX12_waveNow_32 (by decide) ?_
      refine lv_goto (tgt := 39) hx hb dX12_waveNow_34 (by decide) ?_
      have hl := lv_sub hl [] rfl
      exact tr_waveNow_b39 E hA hR hml (fun H locs ls G => W.iret (v := r1) hx hb hr (fun t ht hW => ⟨⟨r1, S1, rfl, ⟨rfl, rfl⟩, ⟨by rw [ht]; exact G.1, va_K.moved hW.alike hK, G.2.1⟩⟩, G.2.2.F ht⟩) G.2.2.2.2 dX12_waveNow_39) _ _ _ _ _ h G hl
  · have h := oif_pos c3 h
    refine lv_aload_n hx hb dX12_waveNow_8 rfl (lv_at hl 0 rfl) ?_
    refine lv_iload_n hx hb dX12_waveNow_9 rfl (lv_at hl 1 rfl) ?_
    refine lv_iload_n hx hb dX12_waveNow_10 rfl (lv_at hl 2 rfl) ?_
    obtain ⟨r7, S4, eS4, h⟩ := obind2_some h
    refine m_calli (As := [.int a0, .int a1]) (rest := []) E G hA hR hml (tr_wave l D cI cJ cZ ad S a0 a1 eS4) (cwV 2 hts (gmV qM_241 qM_242 qM_243 qM_35 qM_244) rfl rfl rfl (by decide +kernel) ⟨Nat.le_of_ble_eq_true rfl, Nat.le_of_ble_eq_true rfl⟩) rfl hl.1 rfl (lv_room (Nat.le_of_ble_eq_true rfl)) dX12_waveNow_11 ⟨Nat.zero_le _, Nat.zero_le _⟩ (fun q5 S6 H locs hq G => ?_)
    obtain ⟨hq1, hq2⟩ := hq
    rw [hq2] at G
    refine lv_to hq1 ?_
    clear hq1 hq2 eS4
    refine lv_goto (tgt := 39) hx hb dX12_waveNow_14 (by decide) ?_
    have hl := lv_sub hl [] rfl
    exact tr_waveNow_b39 E hA hR hml (fun H locs ls G => W.iret (v := r1) hx hb hr (fun t ht hW => ⟨⟨r1, S1, rfl, ⟨rfl, rfl⟩, ⟨by rw [ht]; exact G.1, va_K.moved hW.alike hK, G.2.1⟩⟩, G.2.2.F ht⟩) G.2.2.2.2 dX12_waveNow_39) _ _ _ _ _ h G hl
def fr_heardFrom_b69  (S : MS) (s0 : Int32) : Option (Int32 × MS) := some (s0, S)
set_option maxHeartbeats 4000000 in
set_option maxRecDepth 100000 in
theorem tr_heardFrom_b69 {p : Program} {l : Launch} {e : Env} {s : State} {m : MethodId} {args : Array Value} {below : List Frame} {meth : Method} {c : Code} {Q : State → Prop} {D : va_G} {A : Nat → Prop} {H0 : Heap} {cI cJ cZ : ClassId} {ad : Nat → Nat} {r1 : Int32} {S1 : MS} (E : mE p c cX12_heardFrom s m args (Cond.code yX12_heardFrom cX12_heardFrom 8 (some .int) :: wsM) D cI cJ cZ) (hA : ∀ q : Nat, H0.size ≤ q → A q) (hR : sR s) (hml : c.maxLocals = 8) (kr69 : ∀ (H : Heap) (locs : List Loc) (ls : Array Slot), mG D cI cJ cZ ad A H0 H locs S1 → W p l e { frames := 3, cells := 0, slots := 0, locals := 66 } s m args below meth c H locs 0 0 Q (F0 m 69 ls [.int r1])) : ∀ (S : MS) (H : Heap) (locs : List Loc) (ls : Array Slot) (s0 : Int32), fr_heardFrom_b69 S s0 = some (r1, S1) → mG D cI cJ cZ ad A H0 H locs S → lv_has ls 8 [] → W p l e { frames := 3, cells := 0, slots := 0, locals := 66 } s m args below meth c H locs 0 0 Q (F0 m 69 ls [.int s0]) := by
  have hx := E.1
  have hb := E.2.1
  have hts := E.2.2.1
  have hown := E.2.2.2.1
  have hK := E.2.2.2.2.1
  intro S H locs ls s0 h G hl
  unfold fr_heardFrom_b69 at h
  rw [(osome2 h).2] at G
  refine lv_to (osome2 h).1 ?_
  exact kr69 _ _ _ G
def fr_heardFrom_b31  (S : MS) (s0 : Int32) (l6 : Int32) : Option (Int32 × MS) := elet (S.2.1 10 76) fun v2 => if v2 = 0 then (fr_heardFrom_b69 S s0) else (elet (S.2.1 10 76) fun v4 => elet (s0 * v4) fun v5 => elet (S.2.1 10 76) fun v6 => elet (v6 + l6) fun v7 => oif (¬ v7 = 0) <| elet (v5 / v7) fun v9 => fr_heardFrom_b69 S v9)
set_option maxHeartbeats 4000000 in
set_option maxRecDepth 100000 in
theorem tr_heardFrom_b31 {p : Program} {l : Launch} {e : Env} {s : State} {m : MethodId} {args : Array Value} {below : List Frame} {meth : Method} {c : Code} {Q : State → Prop} {D : va_G} {A : Nat → Prop} {H0 : Heap} {cI cJ cZ : ClassId} {ad : Nat → Nat} {r1 : Int32} {S1 : MS} (E : mE p c cX12_heardFrom s m args (Cond.code yX12_heardFrom cX12_heardFrom 8 (some .int) :: wsM) D cI cJ cZ) (hA : ∀ q : Nat, H0.size ≤ q → A q) (hR : sR s) (hml : c.maxLocals = 8) (kr69 : ∀ (H : Heap) (locs : List Loc) (ls : Array Slot), mG D cI cJ cZ ad A H0 H locs S1 → W p l e { frames := 3, cells := 0, slots := 0, locals := 66 } s m args below meth c H locs 0 0 Q (F0 m 69 ls [.int r1])) : ∀ (S : MS) (H : Heap) (locs : List Loc) (ls : Array Slot) (s0 : Int32) (l6 : Int32), fr_heardFrom_b31 S s0 l6 = some (r1, S1) → mG D cI cJ cZ ad A H0 H locs S → lv_has ls 8 [(0, .ref (ad 0)), (6, .int l6)] → W p l e { frames := 3, cells := 0, slots := 0, locals := 66 } s m args below meth c H locs 0 0 Q (F0 m 31 ls [.int s0]) := by
  have hx := E.1
  have hb := E.2.1
  have hts := E.2.2.1
  have hown := E.2.2.2.1
  have hK := E.2.2.2.2.1
  intro S H locs ls s0 l6 h G hl
  unfold fr_heardFrom_b31 at h
  refine lv_istore (lv' := [(7, .int s0), (0, .ref (ad 0)), (6, .int l6)]) hx hb dX12_heardFrom_31 hl (by decide) rfl (fun ls hl => ?_)
  refine lv_aload_n hx hb dX12_heardFrom_33 rfl (lv_at hl 1 rfl) ?_
  refine m_get E G 10 (v := .ref (ad 10)) (by decide) (.tail _ qM_7) rfl dX12_heardFrom_34 rfl ?_
  refine lv_bipush (v := 76) hx hb dX12_heardFrom_37 (by decide) ?_
  refine m_iald E G 10 2 (n := 131) (k := 76) rfl rfl (by decide) (by decide) dX12_heardFrom_39 ?_
  refine lv_topi (fun v2 ev2 => ?_)
  have h := elet_at ev2 h
  clear ev2
  refine lv_if_ne (tgt := 48) hx hb dX12_heardFrom_40 (by decide) (fun c3 => ?_) (fun c3 => ?_)
  · have h := oif_neg c3 h
    refine lv_iload hx hb dX12_heardFrom_48 (lv_at hl 0 rfl) ?_
    refine lv_aload_n hx hb dX12_heardFrom_50 rfl (lv_at hl 1 rfl) ?_
    refine m_get E G 10 (v := .ref (ad 10)) (by decide) (.tail _ qM_7) rfl dX12_heardFrom_51 rfl ?_
    refine lv_bipush (v := 76) hx hb dX12_heardFrom_54 (by decide) ?_
    refine m_iald E G 10 2 (n := 131) (k := 76) rfl rfl (by decide) (by decide) dX12_heardFrom_56 ?_
    refine lv_topi (fun v4 ev4 => ?_)
    have h := elet_at ev4 h
    clear ev4
    refine lv_imul hx hb dX12_heardFrom_57 ?_
    refine lv_topi (fun v5 ev5 => ?_)
    have h := elet_at ev5 h
    clear ev5
    refine lv_aload_n hx hb dX12_heardFrom_58 rfl (lv_at hl 1 rfl) ?_
    refine m_get E G 10 (v := .ref (ad 10)) (by decide) (.tail _ qM_7) rfl dX12_heardFrom_59 rfl ?_
    refine lv_bipush (v := 76) hx hb dX12_heardFrom_62 (by decide) ?_
    refine m_iald E G 10 2 (n := 131) (k := 76) rfl rfl (by decide) (by decide) dX12_heardFrom_64 ?_
    refine lv_topi (fun v6 ev6 => ?_)
    have h := elet_at ev6 h
    clear ev6
    refine lv_iload hx hb dX12_heardFrom_65 (lv_at hl 2 rfl) ?_
    refine lv_iadd hx hb dX12_heardFrom_67 ?_
    refine lv_topi (fun v7 ev7 => ?_)
    have h := elet_at ev7 h
    clear ev7
    obtain ⟨g8, h⟩ := oif_some h
    refine lv_idiv hx hb dX12_heardFrom_68 g8 ?_
    refine lv_topi (fun v9 ev9 => ?_)
    have h := elet_at ev9 h
    clear ev9
    have hl := lv_sub hl [] rfl
    exact tr_heardFrom_b69 E hA hR hml kr69 _ _ _ _ _ h G hl
  · have h := oif_pos c3 h
    refine lv_iload hx hb dX12_heardFrom_43 (lv_at hl 0 rfl) ?_
    refine lv_goto (tgt := 69) hx hb dX12_heardFrom_45 (by decide) ?_
    have hl := lv_sub hl [] rfl
    exact tr_heardFrom_b69 E hA hR hml kr69 _ _ _ _ _ h G hl
def fr_heardFrom (S : MS) (a0 : Int32) (a1 : Int32) (a2 : Int32) (a3 : Int32) (a4 : Int32) : Option (Int32 × MS) := obind2 (fr_delayFrom S a0 a1 a2) fun r5 S2 => if r5 ≤ a4 then (elet (a4 - r5) fun v7 => obind2 (fr_waveNow S2 a3 v7) fun r11 S8 => fr_heardFrom_b31 S8 r11 r5) else (fr_heardFrom_b31 S2 0 r5)
set_option maxHeartbeats 4000000 in
set_option maxRecDepth 100000 in
theorem tr_heardFrom (l : Launch) (D : va_G) (cI cJ cZ : ClassId) (ad : Nat → Nat) (S : MS) (a0 : Int32) (a1 : Int32) (a2 : Int32) (a3 : Int32) (a4 : Int32) {r1 : Int32} {S1 : MS} (h : fr_heardFrom S a0 a1 a2 a3 a4 = some (r1, S1)) : mCi l yX12_heardFrom (Cond.code yX12_heardFrom cX12_heardFrom 8 (some .int) :: wsM) 3 66 D cI cJ cZ ad S [.int a0, .int a1, .int a2, .int a3, .int a4] (fun r S9 => r = r1 ∧ S9 = S1) := by
  intro sz
  refine pro_in (cc := cX12_heardFrom) (maxL := 8) (ret := (some .int)) (by exact pn_RX12) rfl (by exact Nat.le_of_ble_eq_true rfl) (fun p e s m below meth c ls hx hb hr hts hown hlocks hml hv hl => ?_)
  obtain ⟨hsz, hP, hK, hD0, hR⟩ := hv
  subst hsz
  have hD := hD0.self (sz := s.heap.size)
  generalize hAe : va_A (MW cI cJ cZ ad S) s.heap.size = A at hD ⊢
  have hA : ∀ q : Nat, s.heap.size ≤ q → A q := fun q h => by rw [← hAe]; exact Or.inr h
  have G : mG D cI cJ cZ ad A s.heap s.heap [] S := ⟨hP, hD, va_S.rf⟩
  have E : mE p c cX12_heardFrom s m ([.ref (ad 0), .int a0, .int a1, .int a2, .int a3, .int a4] : List Value).toArray (Cond.code yX12_heardFrom cX12_heardFrom 8 (some .int) :: wsM) D cI cJ cZ := ⟨hx, hb, hts, hown, hK, fun w h => .tail _ (iM_x h)⟩
  have hl : lv_has ls 8 [(0, .ref (ad 0)), (1, .int a0), (2, .int a1), (3, .int a2), (4, .int a3), (5, .int a4)] := hl
  unfold fr_heardFrom at h
  refine lv_aload_n hx hb dX12_heardFrom_0 rfl (lv_at hl 0 rfl) ?_
  refine lv_iload_n hx hb dX12_heardFrom_1 rfl (lv_at hl 1 rfl) ?_
  refine lv_iload_n hx hb dX12_heardFrom_2 rfl (lv_at hl 2 rfl) ?_
  refine lv_iload_n hx hb dX12_heardFrom_3 rfl (lv_at hl 3 rfl) ?_
  obtain ⟨r5, S2, eS2, h⟩ := obind2_some h
  refine m_calli (As := [.int a0, .int a1, .int a2]) (rest := []) E G hA hR hml (tr_delayFrom l D cI cJ cZ ad S a0 a1 a2 eS2) (cwV 3 hts (gmV qM_212 qM_213 qM_214 qM_35 qM_215) rfl rfl rfl (by decide +kernel) ⟨Nat.le_of_ble_eq_true rfl, Nat.le_of_ble_eq_true rfl⟩) rfl hl.1 rfl (lv_room (Nat.le_of_ble_eq_true rfl)) dX12_heardFrom_4 ⟨Nat.zero_le _, Nat.zero_le _⟩ (fun q3 S4 H locs hq G => ?_)
  obtain ⟨hq1, hq2⟩ := hq
  rw [hq2] at G
  refine lv_to hq1 ?_
  clear hq1 hq2 eS2
  refine lv_istore (lv' := [(6, .int r5), (0, .ref (ad 0)), (1, .int a0), (2, .int a1), (3, .int a2), (4, .int a3), (5, .int a4)]) hx hb dX12_heardFrom_7 hl (by decide) rfl (fun ls hl => ?_)
  refine lv_iload hx hb dX12_heardFrom_9 (lv_at hl 6 rfl) ?_
  refine lv_iload hx hb dX12_heardFrom_11 (lv_at hl 0 rfl) ?_
  refine lv_icmp_ge (tgt := 20) hx hb dX12_heardFrom_13 (by decide) (fun c6 => ?_) (fun c6 => ?_)
  · have h := oif_pos c6 h
    refine lv_aload_n hx hb dX12_heardFrom_20 rfl (lv_at hl 1 rfl) ?_
    refine lv_iload hx hb dX12_heardFrom_21 (lv_at hl 5 rfl) ?_
    refine lv_iload hx hb dX12_heardFrom_23 (lv_at hl 6 rfl) ?_
    refine lv_iload hx hb dX12_heardFrom_25 (lv_at hl 0 rfl) ?_
    refine lv_isub hx hb dX12_heardFrom_27 ?_
    refine lv_topi (fun v7 ev7 => ?_)
    have h := elet_at ev7 h
    clear ev7
    obtain ⟨r11, S8, eS8, h⟩ := obind2_some h
    refine m_calli (As := [.int a3, .int v7]) (rest := []) E G hA hR hml (tr_waveNow l D cI cJ cZ ad S2 a3 v7 eS8) (cwV 2 hts (gmV qM_236 qM_237 qM_238 qM_35 qM_239) rfl rfl rfl (by decide +kernel) ⟨Nat.le_of_ble_eq_true rfl, Nat.le_of_ble_eq_true rfl⟩) rfl hl.1 rfl (lv_room (Nat.le_of_ble_eq_true rfl)) dX12_heardFrom_28 ⟨Nat.zero_le _, Nat.zero_le _⟩ (fun q9 S10 H locs hq G => ?_)
    obtain ⟨hq1, hq2⟩ := hq
    rw [hq2] at G
    refine lv_to hq1 ?_
    clear hq1 hq2 eS8
    have hl := lv_sub hl [1, 0] rfl
    exact tr_heardFrom_b31 E hA hR hml (fun H locs ls G => W.iret (v := r1) hx hb hr (fun t ht hW => ⟨⟨r1, S1, rfl, ⟨rfl, rfl⟩, ⟨by rw [ht]; exact G.1, va_K.moved hW.alike hK, G.2.1⟩⟩, G.2.2.F ht⟩) G.2.2.2.2 dX12_heardFrom_69) _ _ _ _ _ _ h G hl
  · have h := oif_neg c6 h
    refine lv_iconst (v := 0) hx hb dX12_heardFrom_16 (by decide) ?_
    refine lv_goto (tgt := 31) hx hb dX12_heardFrom_17 (by decide) ?_
    have hl := lv_sub hl [1, 0] rfl
    exact tr_heardFrom_b31 E hA hR hml (fun H locs ls G => W.iret (v := r1) hx hb hr (fun t ht hW => ⟨⟨r1, S1, rfl, ⟨rfl, rfl⟩, ⟨by rw [ht]; exact G.1, va_K.moved hW.alike hK, G.2.1⟩⟩, G.2.2.F ht⟩) G.2.2.2.2 dX12_heardFrom_69) _ _ _ _ _ _ h G hl
def fr_heardOf_b16  : Nat → MS → Int32 → Int32 → Int32 → Int32 → Int32 → Int32 → Int32 → Option (Int32 × MS)
  | 0, _, _, _, _, _, _, _, _ => none
  | n + 1, S, l1, l2, l3, l4, l5, l6, l7 => elet (S.2.1 10 71) fun v2 => if v2 ≤ l7 then (some (l6, S)) else (elet (72 + l7) fun v4 => oif (inb v4 131 = true) <| elet (S.2.1 10 v4.toNatClampNeg) fun v6 => elet (2 * v6) fun v7 => elet (v7 - l2) fun v8 => obind2 (fr_heardFrom S l1 v8 l3 l4 l5) fun r12 S9 => elet (74 + l7) fun v13 => oif (inb v13 131 = true) <| elet (S9.2.1 10 v13.toNatClampNeg) fun v15 => elet (r12 * v15) fun v16 => elet (v16 / 100) fun v17 => elet (l6 + v17) fun v18 => elet (l7 + Int32.ofInt (1)) fun v19 => fr_heardOf_b16 n S9 l1 l2 l3 l4 l5 v18 v19)
set_option maxHeartbeats 4000000 in
set_option maxRecDepth 100000 in
theorem tr_heardOf_b16 {p : Program} {l : Launch} {e : Env} {s : State} {m : MethodId} {args : Array Value} {below : List Frame} {meth : Method} {c : Code} {Q : State → Prop} {D : va_G} {A : Nat → Prop} {H0 : Heap} {cI cJ cZ : ClassId} {ad : Nat → Nat} {r1 : Int32} {S1 : MS} (E : mE p c cX12_heardOf s m args (Cond.code yX12_heardOf cX12_heardOf 8 (some .int) :: wsM) D cI cJ cZ) (hA : ∀ q : Nat, H0.size ≤ q → A q) (hR : sR s) (hml : c.maxLocals = 8) (kr79 : ∀ (H : Heap) (locs : List Loc) (ls : Array Slot), mG D cI cJ cZ ad A H0 H locs S1 → W p l e { frames := 4, cells := 0, slots := 0, locals := 93 } s m args below meth c H locs 0 0 Q (F0 m 79 ls [.int r1])) : ∀ n : Nat, ∀ (S : MS) (H : Heap) (locs : List Loc) (ls : Array Slot) (l1 : Int32) (l2 : Int32) (l3 : Int32) (l4 : Int32) (l5 : Int32) (l6 : Int32) (l7 : Int32), fr_heardOf_b16 n S l1 l2 l3 l4 l5 l6 l7 = some (r1, S1) → mG D cI cJ cZ ad A H0 H locs S → lv_has ls 8 [(0, .ref (ad 0)), (1, .int l1), (2, .int l2), (3, .int l3), (4, .int l4), (5, .int l5), (6, .int l6), (7, .int l7)] → W p l e { frames := 4, cells := 0, slots := 0, locals := 93 } s m args below meth c H locs 0 0 Q (F0 m 16 ls []) := by
  have hx := E.1
  have hb := E.2.1
  have hts := E.2.2.1
  have hown := E.2.2.2.1
  have hK := E.2.2.2.2.1
  intro n
  induction n with
  | zero =>
    intro S H locs ls l1 l2 l3 l4 l5 l6 l7 h
    have h : (none : Option (Int32 × MS)) = some (r1, S1) := h
    cases h
  | succ n ih =>
    intro S H locs ls l1 l2 l3 l4 l5 l6 l7 h G hl
    unfold fr_heardOf_b16 at h
    refine lv_iload hx hb dX12_heardOf_16 (lv_at hl 7 rfl) ?_
    refine lv_aload_n hx hb dX12_heardOf_18 rfl (lv_at hl 0 rfl) ?_
    refine m_get E G 10 (v := .ref (ad 10)) (by decide) (.tail _ qM_7) rfl dX12_heardOf_19 rfl ?_
    refine lv_bipush (v := 71) hx hb dX12_heardOf_22 (by decide) ?_
    refine m_iald E G 10 2 (n := 131) (k := 71) rfl rfl (by decide) (by decide) dX12_heardOf_24 ?_
    refine lv_topi (fun v2 ev2 => ?_)
    have h := elet_at ev2 h
    clear ev2
    refine lv_icmp_ge (tgt := 77) hx hb dX12_heardOf_25 (by decide) (fun c3 => ?_) (fun c3 => ?_)
    · have h := oif_pos c3 h
      refine lv_iload hx hb dX12_heardOf_77 (lv_at hl 6 rfl) ?_
      rw [(osome2 h).2] at G
      refine lv_to (osome2 h).1 ?_
      exact kr79 _ _ _ G
    · have h := oif_neg c3 h
      refine lv_iload hx hb dX12_heardOf_28 (lv_at hl 6 rfl) ?_
      refine lv_aload_n hx hb dX12_heardOf_30 rfl (lv_at hl 0 rfl) ?_
      refine lv_iload_n hx hb dX12_heardOf_31 rfl (lv_at hl 1 rfl) ?_
      refine lv_iconst (v := 2) hx hb dX12_heardOf_32 (by decide) ?_
      refine lv_aload_n hx hb dX12_heardOf_33 rfl (lv_at hl 0 rfl) ?_
      refine m_get E G 10 (v := .ref (ad 10)) (by decide) (.tail _ qM_7) rfl dX12_heardOf_34 rfl ?_
      refine lv_bipush (v := 72) hx hb dX12_heardOf_37 (by decide) ?_
      refine lv_iload hx hb dX12_heardOf_39 (lv_at hl 7 rfl) ?_
      refine lv_iadd hx hb dX12_heardOf_41 ?_
      refine lv_topi (fun v4 ev4 => ?_)
      have h := elet_at ev4 h
      clear ev4
      obtain ⟨g5, h⟩ := oif_some h
      refine m_iald E G 10 2 (n := 131) (k := v4.toNatClampNeg) rfl (inb_k g5).1 (inb_k g5).2 (by decide) dX12_heardOf_42 ?_
      refine lv_topi (fun v6 ev6 => ?_)
      have h := elet_at ev6 h
      clear ev6
      refine lv_imul hx hb dX12_heardOf_43 ?_
      refine lv_topi (fun v7 ev7 => ?_)
      have h := elet_at ev7 h
      clear ev7
      refine lv_iload_n hx hb dX12_heardOf_44 rfl (lv_at hl 2 rfl) ?_
      refine lv_isub hx hb dX12_heardOf_45 ?_
      refine lv_topi (fun v8 ev8 => ?_)
      have h := elet_at ev8 h
      clear ev8
      refine lv_iload_n hx hb dX12_heardOf_46 rfl (lv_at hl 3 rfl) ?_
      refine lv_iload hx hb dX12_heardOf_47 (lv_at hl 4 rfl) ?_
      refine lv_iload hx hb dX12_heardOf_49 (lv_at hl 5 rfl) ?_
      obtain ⟨r12, S9, eS9, h⟩ := obind2_some h
      refine m_calli (As := [.int l1, .int v8, .int l3, .int l4, .int l5]) (rest := [.int l6]) E G hA hR hml (tr_heardFrom l D cI cJ cZ ad S l1 v8 l3 l4 l5 eS9) (cwV 5 hts (gmV qM_232 qM_233 qM_234 qM_35 qM_235) rfl rfl rfl (by decide +kernel) ⟨Nat.le_of_ble_eq_true rfl, Nat.le_of_ble_eq_true rfl⟩) rfl hl.1 rfl (lv_room (Nat.le_of_ble_eq_true rfl)) dX12_heardOf_51 ⟨Nat.zero_le _, Nat.zero_le _⟩ (fun q10 S11 H locs hq G => ?_)
      obtain ⟨hq1, hq2⟩ := hq
      rw [hq2] at G
      refine lv_to hq1 ?_
      clear hq1 hq2 eS9
      refine lv_aload_n hx hb dX12_heardOf_54 rfl (lv_at hl 0 rfl) ?_
      refine m_get E G 10 (v := .ref (ad 10)) (by decide) (.tail _ qM_7) rfl dX12_heardOf_55 rfl ?_
      refine lv_bipush (v := 74) hx hb dX12_heardOf_58 (by decide) ?_
      refine lv_iload hx hb dX12_heardOf_60 (lv_at hl 7 rfl) ?_
      refine lv_iadd hx hb dX12_heardOf_62 ?_
      refine lv_topi (fun v13 ev13 => ?_)
      have h := elet_at ev13 h
      clear ev13
      obtain ⟨g14, h⟩ := oif_some h
      refine m_iald E G 10 2 (n := 131) (k := v13.toNatClampNeg) rfl (inb_k g14).1 (inb_k g14).2 (by decide) dX12_heardOf_63 ?_
      refine lv_topi (fun v15 ev15 => ?_)
      have h := elet_at ev15 h
      clear ev15
      refine lv_imul hx hb dX12_heardOf_64 ?_
      refine lv_topi (fun v16 ev16 => ?_)
      have h := elet_at ev16 h
      clear ev16
      refine lv_bipush (v := 100) hx hb dX12_heardOf_65 (by decide) ?_
      refine lv_idiv hx hb dX12_heardOf_67 (by decide) ?_
      refine lv_topi (fun v17 ev17 => ?_)
      have h := elet_at ev17 h
      clear ev17
      refine lv_iadd hx hb dX12_heardOf_68 ?_
      refine lv_topi (fun v18 ev18 => ?_)
      have h := elet_at ev18 h
      clear ev18
      refine lv_istore (lv' := [(6, .int v18), (0, .ref (ad 0)), (1, .int l1), (2, .int l2), (3, .int l3), (4, .int l4), (5, .int l5), (7, .int l7)]) hx hb dX12_heardOf_69 hl (by decide) rfl (fun ls hl => ?_)
      obtain ⟨v19, ev19, h⟩ := elet_some h
      refine lv_iinc (v := v19) (lv' := [(7, .int v19), (6, .int v18), (0, .ref (ad 0)), (1, .int l1), (2, .int l2), (3, .int l3), (4, .int l4), (5, .int l5)]) hx hb dX12_heardOf_71 hl (k := 7) rfl ev19.symm (by decide) rfl (fun ls hl => ?_)
      refine lv_goto (tgt := 16) hx hb dX12_heardOf_74 (by decide) ?_
      have hl := lv_sub hl [2, 3, 4, 5, 6, 7, 1, 0] rfl
      exact ih _ _ _ _ _ _ _ _ _ _ _ h G hl
def fr_heardOf (S : MS) (a0 : Int32) (a1 : Int32) (a2 : Int32) (a3 : Int32) (a4 : Int32) : Option (Int32 × MS) := obind2 (fr_heardFrom S a0 a1 a2 a3 a4) fun r5 S2 => fr_heardOf_b16 16384 S2 a0 a1 a2 a3 a4 r5 0
set_option maxHeartbeats 4000000 in
set_option maxRecDepth 100000 in
theorem tr_heardOf (l : Launch) (D : va_G) (cI cJ cZ : ClassId) (ad : Nat → Nat) (S : MS) (a0 : Int32) (a1 : Int32) (a2 : Int32) (a3 : Int32) (a4 : Int32) {r1 : Int32} {S1 : MS} (h : fr_heardOf S a0 a1 a2 a3 a4 = some (r1, S1)) : mCi l yX12_heardOf (Cond.code yX12_heardOf cX12_heardOf 8 (some .int) :: wsM) 4 93 D cI cJ cZ ad S [.int a0, .int a1, .int a2, .int a3, .int a4] (fun r S9 => r = r1 ∧ S9 = S1) := by
  intro sz
  refine pro_in (cc := cX12_heardOf) (maxL := 8) (ret := (some .int)) (by exact pn_RX12) rfl (by exact Nat.le_of_ble_eq_true rfl) (fun p e s m below meth c ls hx hb hr hts hown hlocks hml hv hl => ?_)
  obtain ⟨hsz, hP, hK, hD0, hR⟩ := hv
  subst hsz
  have hD := hD0.self (sz := s.heap.size)
  generalize hAe : va_A (MW cI cJ cZ ad S) s.heap.size = A at hD ⊢
  have hA : ∀ q : Nat, s.heap.size ≤ q → A q := fun q h => by rw [← hAe]; exact Or.inr h
  have G : mG D cI cJ cZ ad A s.heap s.heap [] S := ⟨hP, hD, va_S.rf⟩
  have E : mE p c cX12_heardOf s m ([.ref (ad 0), .int a0, .int a1, .int a2, .int a3, .int a4] : List Value).toArray (Cond.code yX12_heardOf cX12_heardOf 8 (some .int) :: wsM) D cI cJ cZ := ⟨hx, hb, hts, hown, hK, fun w h => .tail _ (iM_x h)⟩
  have hl : lv_has ls 8 [(0, .ref (ad 0)), (1, .int a0), (2, .int a1), (3, .int a2), (4, .int a3), (5, .int a4)] := hl
  unfold fr_heardOf at h
  refine lv_aload_n hx hb dX12_heardOf_0 rfl (lv_at hl 0 rfl) ?_
  refine lv_iload_n hx hb dX12_heardOf_1 rfl (lv_at hl 1 rfl) ?_
  refine lv_iload_n hx hb dX12_heardOf_2 rfl (lv_at hl 2 rfl) ?_
  refine lv_iload_n hx hb dX12_heardOf_3 rfl (lv_at hl 3 rfl) ?_
  refine lv_iload hx hb dX12_heardOf_4 (lv_at hl 4 rfl) ?_
  refine lv_iload hx hb dX12_heardOf_6 (lv_at hl 5 rfl) ?_
  obtain ⟨r5, S2, eS2, h⟩ := obind2_some h
  refine m_calli (As := [.int a0, .int a1, .int a2, .int a3, .int a4]) (rest := []) E G hA hR hml (tr_heardFrom l D cI cJ cZ ad S a0 a1 a2 a3 a4 eS2) (cwV 5 hts (gmV qM_232 qM_233 qM_234 qM_35 qM_235) rfl rfl rfl (by decide +kernel) ⟨Nat.le_of_ble_eq_true rfl, Nat.le_of_ble_eq_true rfl⟩) rfl hl.1 rfl (lv_room (Nat.le_of_ble_eq_true rfl)) dX12_heardOf_8 ⟨Nat.zero_le _, Nat.zero_le _⟩ (fun q3 S4 H locs hq G => ?_)
  obtain ⟨hq1, hq2⟩ := hq
  rw [hq2] at G
  refine lv_to hq1 ?_
  clear hq1 hq2 eS2
  refine lv_istore (lv' := [(6, .int r5), (0, .ref (ad 0)), (1, .int a0), (2, .int a1), (3, .int a2), (4, .int a3), (5, .int a4)]) hx hb dX12_heardOf_11 hl (by decide) rfl (fun ls hl => ?_)
  refine lv_iconst (v := 0) hx hb dX12_heardOf_13 (by decide) ?_
  refine lv_istore (lv' := [(7, .int 0), (6, .int r5), (0, .ref (ad 0)), (1, .int a0), (2, .int a1), (3, .int a2), (4, .int a3), (5, .int a4)]) hx hb dX12_heardOf_14 hl (by decide) rfl (fun ls hl => ?_)
  have hl := lv_sub hl [2, 3, 4, 5, 6, 7, 1, 0] rfl
  exact tr_heardOf_b16 E hA hR hml (fun H locs ls G => W.iret (v := r1) hx hb hr (fun t ht hW => ⟨⟨r1, S1, rfl, ⟨rfl, rfl⟩, ⟨by rw [ht]; exact G.1, va_K.moved hW.alike hK, G.2.1⟩⟩, G.2.2.F ht⟩) G.2.2.2.2 dX12_heardOf_79) _ _ _ _ _ _ _ _ _ _ _ _ h G hl
def fr_sourcePlace_12_b45  (S : MS) (s0 : Int32) : Option (Int32 × MS) := some (s0, S)
set_option maxHeartbeats 4000000 in
set_option maxRecDepth 100000 in
theorem tr_sourcePlace_12_b45 {p : Program} {l : Launch} {e : Env} {s : State} {m : MethodId} {args : Array Value} {below : List Frame} {meth : Method} {c : Code} {Q : State → Prop} {D : va_G} {A : Nat → Prop} {H0 : Heap} {cI cJ cZ : ClassId} {ad : Nat → Nat} {r1 : Int32} {S1 : MS} (E : mE p c cX12_sourcePlace s m args (Cond.code yX12_sourcePlace cX12_sourcePlace 5 (some .int) :: wsM) D cI cJ cZ) (hA : ∀ q : Nat, H0.size ≤ q → A q) (hR : sR s) (hml : c.maxLocals = 5) (kr45 : ∀ (H : Heap) (locs : List Loc) (ls : Array Slot), mG D cI cJ cZ ad A H0 H locs S1 → W p l e { frames := 1, cells := 0, slots := 0, locals := 0 } s m args below meth c H locs 0 0 Q (F0 m 45 ls [.int r1])) : ∀ (S : MS) (H : Heap) (locs : List Loc) (ls : Array Slot) (s0 : Int32), fr_sourcePlace_12_b45 S s0 = some (r1, S1) → mG D cI cJ cZ ad A H0 H locs S → lv_has ls 5 [] → W p l e { frames := 1, cells := 0, slots := 0, locals := 0 } s m args below meth c H locs 0 0 Q (F0 m 45 ls [.int s0]) := by
  have hx := E.1
  have hb := E.2.1
  have hts := E.2.2.1
  have hown := E.2.2.2.1
  have hK := E.2.2.2.2.1
  intro S H locs ls s0 h G hl
  unfold fr_sourcePlace_12_b45 at h
  rw [(osome2 h).2] at G
  refine lv_to (osome2 h).1 ?_
  exact kr45 _ _ _ G
def fr_sourcePlace_12 (S : MS) (a1 : Int32) (a2 : Int32) (a3 : Int32) : Option (Int32 × MS) := if a2 = 0 then (elet (31 + a1) fun v3 => oif (inb v3 2455 = true) <| elet (S.2.1 12 v3.toNatClampNeg) fun v5 => elet (43 + a1) fun v6 => oif (inb v6 2455 = true) <| elet (S.2.1 12 v6.toNatClampNeg) fun v8 => elet (v8 * a3) fun v9 => elet (v9 / 100) fun v10 => elet (v5 + v10) fun v11 => fr_sourcePlace_12_b45 S v11) else (elet (37 + a1) fun v12 => oif (inb v12 2455 = true) <| elet (S.2.1 12 v12.toNatClampNeg) fun v14 => elet (49 + a1) fun v15 => oif (inb v15 2455 = true) <| elet (S.2.1 12 v15.toNatClampNeg) fun v17 => elet (v17 * a3) fun v18 => elet (v18 / 100) fun v19 => elet (v14 + v19) fun v20 => fr_sourcePlace_12_b45 S v20)
set_option maxHeartbeats 4000000 in
set_option maxRecDepth 100000 in
theorem tr_sourcePlace_12 (l : Launch) (D : va_G) (cI cJ cZ : ClassId) (ad : Nat → Nat) (S : MS) (a1 : Int32) (a2 : Int32) (a3 : Int32) {r1 : Int32} {S1 : MS} (h : fr_sourcePlace_12 S a1 a2 a3 = some (r1, S1)) : mCi l yX12_sourcePlace (Cond.code yX12_sourcePlace cX12_sourcePlace 5 (some .int) :: wsM) 1 0 D cI cJ cZ ad S [.ref (ad 12), .int a1, .int a2, .int a3] (fun r S9 => r = r1 ∧ S9 = S1) := by
  intro sz
  refine pro_in (cc := cX12_sourcePlace) (maxL := 5) (ret := (some .int)) (by exact pn_RX12) rfl (by exact Nat.le_of_ble_eq_true rfl) (fun p e s m below meth c ls hx hb hr hts hown hlocks hml hv hl => ?_)
  obtain ⟨hsz, hP, hK, hD0, hR⟩ := hv
  subst hsz
  have hD := hD0.self (sz := s.heap.size)
  generalize hAe : va_A (MW cI cJ cZ ad S) s.heap.size = A at hD ⊢
  have hA : ∀ q : Nat, s.heap.size ≤ q → A q := fun q h => by rw [← hAe]; exact Or.inr h
  have G : mG D cI cJ cZ ad A s.heap s.heap [] S := ⟨hP, hD, va_S.rf⟩
  have E : mE p c cX12_sourcePlace s m ([.ref (ad 0), .ref (ad 12), .int a1, .int a2, .int a3] : List Value).toArray (Cond.code yX12_sourcePlace cX12_sourcePlace 5 (some .int) :: wsM) D cI cJ cZ := ⟨hx, hb, hts, hown, hK, fun w h => .tail _ (iM_x h)⟩
  have hl : lv_has ls 5 [(0, .ref (ad 0)), (1, .ref (ad 12)), (2, .int a1), (3, .int a2), (4, .int a3)] := hl
  unfold fr_sourcePlace_12 at h
  refine lv_iload_n hx hb dX12_sourcePlace_0 rfl (lv_at hl 3 rfl) ?_
  refine lv_if_ne (tgt := 26) hx hb dX12_sourcePlace_1 (by decide) (fun c2 => ?_) (fun c2 => ?_)
  · have h := oif_neg c2 h
    refine lv_aload_n hx hb dX12_sourcePlace_26 rfl (lv_at hl 1 rfl) ?_
    refine lv_bipush (v := 37) hx hb dX12_sourcePlace_27 (by decide) ?_
    refine lv_iload_n hx hb dX12_sourcePlace_29 rfl (lv_at hl 2 rfl) ?_
    refine lv_iadd hx hb dX12_sourcePlace_30 ?_
    refine lv_topi (fun v12 ev12 => ?_)
    have h := elet_at ev12 h
    clear ev12
    obtain ⟨g13, h⟩ := oif_some h
    refine m_iald E G 12 4 (n := 2455) (k := v12.toNatClampNeg) rfl (inb_k g13).1 (inb_k g13).2 (by decide) dX12_sourcePlace_31 ?_
    refine lv_topi (fun v14 ev14 => ?_)
    have h := elet_at ev14 h
    clear ev14
    refine lv_aload_n hx hb dX12_sourcePlace_32 rfl (lv_at hl 1 rfl) ?_
    refine lv_bipush (v := 49) hx hb dX12_sourcePlace_33 (by decide) ?_
    refine lv_iload_n hx hb dX12_sourcePlace_35 rfl (lv_at hl 2 rfl) ?_
    refine lv_iadd hx hb dX12_sourcePlace_36 ?_
    refine lv_topi (fun v15 ev15 => ?_)
    have h := elet_at ev15 h
    clear ev15
    obtain ⟨g16, h⟩ := oif_some h
    refine m_iald E G 12 4 (n := 2455) (k := v15.toNatClampNeg) rfl (inb_k g16).1 (inb_k g16).2 (by decide) dX12_sourcePlace_37 ?_
    refine lv_topi (fun v17 ev17 => ?_)
    have h := elet_at ev17 h
    clear ev17
    refine lv_iload hx hb dX12_sourcePlace_38 (lv_at hl 4 rfl) ?_
    refine lv_imul hx hb dX12_sourcePlace_40 ?_
    refine lv_topi (fun v18 ev18 => ?_)
    have h := elet_at ev18 h
    clear ev18
    refine lv_bipush (v := 100) hx hb dX12_sourcePlace_41 (by decide) ?_
    refine lv_idiv hx hb dX12_sourcePlace_43 (by decide) ?_
    refine lv_topi (fun v19 ev19 => ?_)
    have h := elet_at ev19 h
    clear ev19
    refine lv_iadd hx hb dX12_sourcePlace_44 ?_
    refine lv_topi (fun v20 ev20 => ?_)
    have h := elet_at ev20 h
    clear ev20
    have hl := lv_sub hl [] rfl
    exact tr_sourcePlace_12_b45 E hA hR hml (fun H locs ls G => W.iret (v := r1) hx hb hr (fun t ht hW => ⟨⟨r1, S1, rfl, ⟨rfl, rfl⟩, ⟨by rw [ht]; exact G.1, va_K.moved hW.alike hK, G.2.1⟩⟩, G.2.2.F ht⟩) G.2.2.2.2 dX12_sourcePlace_45) _ _ _ _ _ h G hl
  · have h := oif_pos c2 h
    refine lv_aload_n hx hb dX12_sourcePlace_4 rfl (lv_at hl 1 rfl) ?_
    refine lv_bipush (v := 31) hx hb dX12_sourcePlace_5 (by decide) ?_
    refine lv_iload_n hx hb dX12_sourcePlace_7 rfl (lv_at hl 2 rfl) ?_
    refine lv_iadd hx hb dX12_sourcePlace_8 ?_
    refine lv_topi (fun v3 ev3 => ?_)
    have h := elet_at ev3 h
    clear ev3
    obtain ⟨g4, h⟩ := oif_some h
    refine m_iald E G 12 4 (n := 2455) (k := v3.toNatClampNeg) rfl (inb_k g4).1 (inb_k g4).2 (by decide) dX12_sourcePlace_9 ?_
    refine lv_topi (fun v5 ev5 => ?_)
    have h := elet_at ev5 h
    clear ev5
    refine lv_aload_n hx hb dX12_sourcePlace_10 rfl (lv_at hl 1 rfl) ?_
    refine lv_bipush (v := 43) hx hb dX12_sourcePlace_11 (by decide) ?_
    refine lv_iload_n hx hb dX12_sourcePlace_13 rfl (lv_at hl 2 rfl) ?_
    refine lv_iadd hx hb dX12_sourcePlace_14 ?_
    refine lv_topi (fun v6 ev6 => ?_)
    have h := elet_at ev6 h
    clear ev6
    obtain ⟨g7, h⟩ := oif_some h
    refine m_iald E G 12 4 (n := 2455) (k := v6.toNatClampNeg) rfl (inb_k g7).1 (inb_k g7).2 (by decide) dX12_sourcePlace_15 ?_
    refine lv_topi (fun v8 ev8 => ?_)
    have h := elet_at ev8 h
    clear ev8
    refine lv_iload hx hb dX12_sourcePlace_16 (lv_at hl 4 rfl) ?_
    refine lv_imul hx hb dX12_sourcePlace_18 ?_
    refine lv_topi (fun v9 ev9 => ?_)
    have h := elet_at ev9 h
    clear ev9
    refine lv_bipush (v := 100) hx hb dX12_sourcePlace_19 (by decide) ?_
    refine lv_idiv hx hb dX12_sourcePlace_21 (by decide) ?_
    refine lv_topi (fun v10 ev10 => ?_)
    have h := elet_at ev10 h
    clear ev10
    refine lv_iadd hx hb dX12_sourcePlace_22 ?_
    refine lv_topi (fun v11 ev11 => ?_)
    have h := elet_at ev11 h
    clear ev11
    refine lv_goto (tgt := 45) hx hb dX12_sourcePlace_23 (by decide) ?_
    have hl := lv_sub hl [] rfl
    exact tr_sourcePlace_12_b45 E hA hR hml (fun H locs ls G => W.iret (v := r1) hx hb hr (fun t ht hW => ⟨⟨r1, S1, rfl, ⟨rfl, rfl⟩, ⟨by rw [ht]; exact G.1, va_K.moved hW.alike hK, G.2.1⟩⟩, G.2.2.F ht⟩) G.2.2.2.2 dX12_sourcePlace_45) _ _ _ _ _ h G hl
def fr_rawAt_12_b127 (k71 : MS → Int32 → Int32 → Int32 → Int32 → Option (Int32 × MS)) (S : MS) (s0 : Int32) (s1 : Int32) (l2 : Int32) (l4 : Int32) (l6 : Int32) : Option (Int32 × MS) := elet (s1 + s0) fun v2 => elet (l6 + Int32.ofInt (1)) fun v3 => k71 S l2 l4 v2 v3
set_option maxHeartbeats 4000000 in
set_option maxRecDepth 100000 in
theorem tr_rawAt_12_b127 {p : Program} {l : Launch} {e : Env} {s : State} {m : MethodId} {args : Array Value} {below : List Frame} {meth : Method} {c : Code} {Q : State → Prop} {D : va_G} {A : Nat → Prop} {H0 : Heap} {cI cJ cZ : ClassId} {ad : Nat → Nat} {r1 : Int32} {S1 : MS} (E : mE p c cX12_rawAt s m args (Cond.code yX12_rawAt cX12_rawAt 7 (some .int) :: wsM) D cI cJ cZ) (hA : ∀ q : Nat, H0.size ≤ q → A q) (hR : sR s) (hml : c.maxLocals = 7) (kr19 : ∀ (H : Heap) (locs : List Loc) (ls : Array Slot), mG D cI cJ cZ ad A H0 H locs S1 → W p l e { frames := 5, cells := 0, slots := 0, locals := 120 } s m args below meth c H locs 0 0 Q (F0 m 19 ls [.int r1])) (kr64 : ∀ (H : Heap) (locs : List Loc) (ls : Array Slot), mG D cI cJ cZ ad A H0 H locs S1 → W p l e { frames := 5, cells := 0, slots := 0, locals := 120 } s m args below meth c H locs 0 0 Q (F0 m 64 ls [.int r1])) (kr148 : ∀ (H : Heap) (locs : List Loc) (ls : Array Slot), mG D cI cJ cZ ad A H0 H locs S1 → W p l e { frames := 5, cells := 0, slots := 0, locals := 120 } s m args below meth c H locs 0 0 Q (F0 m 148 ls [.int r1])) {k71 : MS → Int32 → Int32 → Int32 → Int32 → Option (Int32 × MS)} (hk71 : ∀ (S : MS) (H : Heap) (locs : List Loc) (ls : Array Slot) (l2 : Int32) (l4 : Int32) (l5 : Int32) (l6 : Int32), k71 S l2 l4 l5 l6 = some (r1, S1) → mG D cI cJ cZ ad A H0 H locs S → lv_has ls 7 [(0, .ref (ad 0)), (1, .ref (ad 12)), (2, .int l2), (4, .int l4), (5, .int l5), (6, .int l6)] → W p l e { frames := 5, cells := 0, slots := 0, locals := 120 } s m args below meth c H locs 0 0 Q (F0 m 71 ls [])) : ∀ (S : MS) (H : Heap) (locs : List Loc) (ls : Array Slot) (s0 : Int32) (s1 : Int32) (l2 : Int32) (l4 : Int32) (l6 : Int32), fr_rawAt_12_b127 k71 S s0 s1 l2 l4 l6 = some (r1, S1) → mG D cI cJ cZ ad A H0 H locs S → lv_has ls 7 [(0, .ref (ad 0)), (1, .ref (ad 12)), (2, .int l2), (4, .int l4), (6, .int l6)] → W p l e { frames := 5, cells := 0, slots := 0, locals := 120 } s m args below meth c H locs 0 0 Q (F0 m 127 ls [.int s0, .int s1]) := by
  have hx := E.1
  have hb := E.2.1
  have hts := E.2.2.1
  have hown := E.2.2.2.1
  have hK := E.2.2.2.2.1
  intro S H locs ls s0 s1 l2 l4 l6 h G hl
  unfold fr_rawAt_12_b127 at h
  refine lv_iadd hx hb dX12_rawAt_127 ?_
  refine lv_topi (fun v2 ev2 => ?_)
  have h := elet_at ev2 h
  clear ev2
  refine lv_istore (lv' := [(5, .int v2), (0, .ref (ad 0)), (1, .ref (ad 12)), (2, .int l2), (4, .int l4), (6, .int l6)]) hx hb dX12_rawAt_128 hl (by decide) rfl (fun ls hl => ?_)
  obtain ⟨v3, ev3, h⟩ := elet_some h
  refine lv_iinc (v := v3) (lv' := [(6, .int v3), (5, .int v2), (0, .ref (ad 0)), (1, .ref (ad 12)), (2, .int l2), (4, .int l4)]) hx hb dX12_rawAt_130 hl (k := 5) rfl ev3.symm (by decide) rfl (fun ls hl => ?_)
  refine lv_goto (tgt := 71) hx hb dX12_rawAt_133 (by decide) ?_
  have hl := lv_sub hl [2, 3, 4, 5, 1, 0] rfl
  exact hk71 _ _ _ _ _ _ _ _ h G hl
def fr_rawAt_12_b71  : Nat → MS → Int32 → Int32 → Int32 → Int32 → Option (Int32 × MS)
  | 0, _, _, _, _, _ => none
  | n + 1, S, l2, l4, l5, l6 => elet (S.2.1 10 5) fun v2 => if v2 ≤ l6 then (elet (35 + l2) fun v4 => oif (inb v4 131 = true) <| elet (S.2.1 10 v4.toNatClampNeg) fun v6 => elet (v6 * l5) fun v7 => some (v7, S)) else (elet (25 + l6) fun v8 => oif (inb v8 2455 = true) <| elet (S.2.1 12 v8.toNatClampNeg) fun v10 => if v10 = 0 then (fr_rawAt_12_b127 (fr_rawAt_12_b71 n) S 0 l5 l2 l4 l6) else (obind2 (fr_sourcePlace_12 S l6 0 l4) fun r15 S12 => obind2 (fr_sourcePlace_12 S12 l6 1 l4) fun r19 S16 => obind2 (fr_heardOf S16 l2 r15 r19 l6 l4) fun r23 S20 => fr_rawAt_12_b127 (fr_rawAt_12_b71 n) S20 r23 l5 l2 l4 l6))
set_option maxHeartbeats 4000000 in
set_option maxRecDepth 100000 in
theorem tr_rawAt_12_b71 {p : Program} {l : Launch} {e : Env} {s : State} {m : MethodId} {args : Array Value} {below : List Frame} {meth : Method} {c : Code} {Q : State → Prop} {D : va_G} {A : Nat → Prop} {H0 : Heap} {cI cJ cZ : ClassId} {ad : Nat → Nat} {r1 : Int32} {S1 : MS} (E : mE p c cX12_rawAt s m args (Cond.code yX12_rawAt cX12_rawAt 7 (some .int) :: wsM) D cI cJ cZ) (hA : ∀ q : Nat, H0.size ≤ q → A q) (hR : sR s) (hml : c.maxLocals = 7) (kr19 : ∀ (H : Heap) (locs : List Loc) (ls : Array Slot), mG D cI cJ cZ ad A H0 H locs S1 → W p l e { frames := 5, cells := 0, slots := 0, locals := 120 } s m args below meth c H locs 0 0 Q (F0 m 19 ls [.int r1])) (kr64 : ∀ (H : Heap) (locs : List Loc) (ls : Array Slot), mG D cI cJ cZ ad A H0 H locs S1 → W p l e { frames := 5, cells := 0, slots := 0, locals := 120 } s m args below meth c H locs 0 0 Q (F0 m 64 ls [.int r1])) (kr148 : ∀ (H : Heap) (locs : List Loc) (ls : Array Slot), mG D cI cJ cZ ad A H0 H locs S1 → W p l e { frames := 5, cells := 0, slots := 0, locals := 120 } s m args below meth c H locs 0 0 Q (F0 m 148 ls [.int r1])) : ∀ n : Nat, ∀ (S : MS) (H : Heap) (locs : List Loc) (ls : Array Slot) (l2 : Int32) (l4 : Int32) (l5 : Int32) (l6 : Int32), fr_rawAt_12_b71 n S l2 l4 l5 l6 = some (r1, S1) → mG D cI cJ cZ ad A H0 H locs S → lv_has ls 7 [(0, .ref (ad 0)), (1, .ref (ad 12)), (2, .int l2), (4, .int l4), (5, .int l5), (6, .int l6)] → W p l e { frames := 5, cells := 0, slots := 0, locals := 120 } s m args below meth c H locs 0 0 Q (F0 m 71 ls []) := by
  have hx := E.1
  have hb := E.2.1
  have hts := E.2.2.1
  have hown := E.2.2.2.1
  have hK := E.2.2.2.2.1
  intro n
  induction n with
  | zero =>
    intro S H locs ls l2 l4 l5 l6 h
    have h : (none : Option (Int32 × MS)) = some (r1, S1) := h
    cases h
  | succ n ih =>
    intro S H locs ls l2 l4 l5 l6 h G hl
    unfold fr_rawAt_12_b71 at h
    refine lv_iload hx hb dX12_rawAt_71 (lv_at hl 5 rfl) ?_
    refine lv_aload_n hx hb dX12_rawAt_73 rfl (lv_at hl 0 rfl) ?_
    refine m_get E G 10 (v := .ref (ad 10)) (by decide) (.tail _ qM_7) rfl dX12_rawAt_74 rfl ?_
    refine lv_iconst (v := 5) hx hb dX12_rawAt_77 (by decide) ?_
    refine m_iald E G 10 2 (n := 131) (k := 5) rfl rfl (by decide) (by decide) dX12_rawAt_78 ?_
    refine lv_topi (fun v2 ev2 => ?_)
    have h := elet_at ev2 h
    clear ev2
    refine lv_icmp_ge (tgt := 136) hx hb dX12_rawAt_79 (by decide) (fun c3 => ?_) (fun c3 => ?_)
    · have h := oif_pos c3 h
      refine lv_aload_n hx hb dX12_rawAt_136 rfl (lv_at hl 0 rfl) ?_
      refine m_get E G 10 (v := .ref (ad 10)) (by decide) (.tail _ qM_7) rfl dX12_rawAt_137 rfl ?_
      refine lv_bipush (v := 35) hx hb dX12_rawAt_140 (by decide) ?_
      refine lv_iload_n hx hb dX12_rawAt_142 rfl (lv_at hl 2 rfl) ?_
      refine lv_iadd hx hb dX12_rawAt_143 ?_
      refine lv_topi (fun v4 ev4 => ?_)
      have h := elet_at ev4 h
      clear ev4
      obtain ⟨g5, h⟩ := oif_some h
      refine m_iald E G 10 2 (n := 131) (k := v4.toNatClampNeg) rfl (inb_k g5).1 (inb_k g5).2 (by decide) dX12_rawAt_144 ?_
      refine lv_topi (fun v6 ev6 => ?_)
      have h := elet_at ev6 h
      clear ev6
      refine lv_iload hx hb dX12_rawAt_145 (lv_at hl 4 rfl) ?_
      refine lv_imul hx hb dX12_rawAt_147 ?_
      refine lv_topi (fun v7 ev7 => ?_)
      have h := elet_at ev7 h
      clear ev7
      rw [(osome2 h).2] at G
      refine lv_to (osome2 h).1 ?_
      exact kr148 _ _ _ G
    · have h := oif_neg c3 h
      refine lv_iload hx hb dX12_rawAt_82 (lv_at hl 4 rfl) ?_
      refine lv_aload_n hx hb dX12_rawAt_84 rfl (lv_at hl 1 rfl) ?_
      refine lv_bipush (v := 25) hx hb dX12_rawAt_85 (by decide) ?_
      refine lv_iload hx hb dX12_rawAt_87 (lv_at hl 5 rfl) ?_
      refine lv_iadd hx hb dX12_rawAt_89 ?_
      refine lv_topi (fun v8 ev8 => ?_)
      have h := elet_at ev8 h
      clear ev8
      obtain ⟨g9, h⟩ := oif_some h
      refine m_iald E G 12 4 (n := 2455) (k := v8.toNatClampNeg) rfl (inb_k g9).1 (inb_k g9).2 (by decide) dX12_rawAt_90 ?_
      refine lv_topi (fun v10 ev10 => ?_)
      have h := elet_at ev10 h
      clear ev10
      refine lv_if_ne (tgt := 98) hx hb dX12_rawAt_91 (by decide) (fun c11 => ?_) (fun c11 => ?_)
      · have h := oif_neg c11 h
        refine lv_aload_n hx hb dX12_rawAt_98 rfl (lv_at hl 0 rfl) ?_
        refine lv_iload_n hx hb dX12_rawAt_99 rfl (lv_at hl 2 rfl) ?_
        refine lv_aload_n hx hb dX12_rawAt_100 rfl (lv_at hl 0 rfl) ?_
        refine lv_aload_n hx hb dX12_rawAt_101 rfl (lv_at hl 1 rfl) ?_
        refine lv_iload hx hb dX12_rawAt_102 (lv_at hl 5 rfl) ?_
        refine lv_iconst (v := 0) hx hb dX12_rawAt_104 (by decide) ?_
        refine lv_iload hx hb dX12_rawAt_105 (lv_at hl 3 rfl) ?_
        obtain ⟨r15, S12, eS12, h⟩ := obind2_some h
        refine m_calli (As := [.ref (ad 12), .int l6, .int 0, .int l4]) (rest := [.int l2, .ref (ad 0), .int l5]) E G hA hR hml (tr_sourcePlace_12 l D cI cJ cZ ad S l6 0 l4 eS12) (cwV 4 hts (gmV qM_250 qM_251 qM_252 qM_35 qM_253) rfl rfl rfl (by decide +kernel) ⟨Nat.le_of_ble_eq_true rfl, Nat.le_of_ble_eq_true rfl⟩) rfl hl.1 rfl (lv_room (Nat.le_of_ble_eq_true rfl)) dX12_rawAt_107 ⟨Nat.zero_le _, Nat.zero_le _⟩ (fun q13 S14 H locs hq G => ?_)
        obtain ⟨hq1, hq2⟩ := hq
        rw [hq2] at G
        refine lv_to hq1 ?_
        clear hq1 hq2 eS12
        refine lv_aload_n hx hb dX12_rawAt_110 rfl (lv_at hl 0 rfl) ?_
        refine lv_aload_n hx hb dX12_rawAt_111 rfl (lv_at hl 1 rfl) ?_
        refine lv_iload hx hb dX12_rawAt_112 (lv_at hl 5 rfl) ?_
        refine lv_iconst (v := 1) hx hb dX12_rawAt_114 (by decide) ?_
        refine lv_iload hx hb dX12_rawAt_115 (lv_at hl 3 rfl) ?_
        obtain ⟨r19, S16, eS16, h⟩ := obind2_some h
        refine m_calli (As := [.ref (ad 12), .int l6, .int 1, .int l4]) (rest := [.int r15, .int l2, .ref (ad 0), .int l5]) E G hA hR hml (tr_sourcePlace_12 l D cI cJ cZ ad S12 l6 1 l4 eS16) (cwV 4 hts (gmV qM_250 qM_251 qM_252 qM_35 qM_253) rfl rfl rfl (by decide +kernel) ⟨Nat.le_of_ble_eq_true rfl, Nat.le_of_ble_eq_true rfl⟩) rfl hl.1 rfl (lv_room (Nat.le_of_ble_eq_true rfl)) dX12_rawAt_117 ⟨Nat.zero_le _, Nat.zero_le _⟩ (fun q17 S18 H locs hq G => ?_)
        obtain ⟨hq1, hq2⟩ := hq
        rw [hq2] at G
        refine lv_to hq1 ?_
        clear hq1 hq2 eS16
        refine lv_iload hx hb dX12_rawAt_120 (lv_at hl 5 rfl) ?_
        refine lv_iload hx hb dX12_rawAt_122 (lv_at hl 3 rfl) ?_
        obtain ⟨r23, S20, eS20, h⟩ := obind2_some h
        refine m_calli (As := [.int l2, .int r15, .int r19, .int l6, .int l4]) (rest := [.int l5]) E G hA hR hml (tr_heardOf l D cI cJ cZ ad S16 l2 r15 r19 l6 l4 eS20) (cwV 5 hts (gmV qM_228 qM_229 qM_230 qM_35 qM_231) rfl rfl rfl (by decide +kernel) ⟨Nat.le_of_ble_eq_true rfl, Nat.le_of_ble_eq_true rfl⟩) rfl hl.1 rfl (lv_room (Nat.le_of_ble_eq_true rfl)) dX12_rawAt_124 ⟨Nat.zero_le _, Nat.zero_le _⟩ (fun q21 S22 H locs hq G => ?_)
        obtain ⟨hq1, hq2⟩ := hq
        rw [hq2] at G
        refine lv_to hq1 ?_
        clear hq1 hq2 eS20
        have hl := lv_sub hl [0, 1, 2, 3, 5] rfl
        exact tr_rawAt_12_b127 E hA hR hml kr19 kr64 kr148 ih _ _ _ _ _ _ _ _ _ h G hl
      · have h := oif_pos c11 h
        refine lv_iconst (v := 0) hx hb dX12_rawAt_94 (by decide) ?_
        refine lv_goto (tgt := 127) hx hb dX12_rawAt_95 (by decide) ?_
        have hl := lv_sub hl [0, 1, 2, 3, 5] rfl
        exact tr_rawAt_12_b127 E hA hR hml kr19 kr64 kr148 ih _ _ _ _ _ _ _ _ _ h G hl
def fr_rawAt_12 (S : MS) (a1 : Int32) (a2 : Int32) : Option (Int32 × MS) := elet (83 + a1) fun v2 => oif (inb v2 131 = true) <| elet (S.2.1 10 v2.toNatClampNeg) fun v4 => elet (a2 - v4) fun v5 => if 0 ≤ v5 then (elet (S.1 21) fun v7 => if v7 = (-1) then (fr_rawAt_12_b71 16384 S a1 v5 0 0) else (elet (35 + a1) fun v9 => oif (inb v9 131 = true) <| elet (S.2.1 10 v9.toNatClampNeg) fun v11 => elet (S.1 21) fun v12 => obind2 (fr_centre S v12 0) fun r16 S13 => elet (S13.1 21) fun v17 => obind2 (fr_centre S13 v17 1) fun r21 S18 => obind2 (fr_heardOf S18 a1 r16 r21 0 v5) fun r25 S22 => elet (v11 * r25) fun v26 => some (v26, S22))) else (some (0, S))
set_option maxHeartbeats 4000000 in
set_option maxRecDepth 100000 in
theorem tr_rawAt_12 (l : Launch) (D : va_G) (cI cJ cZ : ClassId) (ad : Nat → Nat) (S : MS) (a1 : Int32) (a2 : Int32) {r1 : Int32} {S1 : MS} (h : fr_rawAt_12 S a1 a2 = some (r1, S1)) : mCi l yX12_rawAt (Cond.code yX12_rawAt cX12_rawAt 7 (some .int) :: wsM) 5 120 D cI cJ cZ ad S [.ref (ad 12), .int a1, .int a2] (fun r S9 => r = r1 ∧ S9 = S1) := by
  intro sz
  refine pro_in (cc := cX12_rawAt) (maxL := 7) (ret := (some .int)) (by exact pn_RX12) rfl (by exact Nat.le_of_ble_eq_true rfl) (fun p e s m below meth c ls hx hb hr hts hown hlocks hml hv hl => ?_)
  obtain ⟨hsz, hP, hK, hD0, hR⟩ := hv
  subst hsz
  have hD := hD0.self (sz := s.heap.size)
  generalize hAe : va_A (MW cI cJ cZ ad S) s.heap.size = A at hD ⊢
  have hA : ∀ q : Nat, s.heap.size ≤ q → A q := fun q h => by rw [← hAe]; exact Or.inr h
  have G : mG D cI cJ cZ ad A s.heap s.heap [] S := ⟨hP, hD, va_S.rf⟩
  have E : mE p c cX12_rawAt s m ([.ref (ad 0), .ref (ad 12), .int a1, .int a2] : List Value).toArray (Cond.code yX12_rawAt cX12_rawAt 7 (some .int) :: wsM) D cI cJ cZ := ⟨hx, hb, hts, hown, hK, fun w h => .tail _ (iM_x h)⟩
  have hl : lv_has ls 7 [(0, .ref (ad 0)), (1, .ref (ad 12)), (2, .int a1), (3, .int a2)] := hl
  unfold fr_rawAt_12 at h
  refine lv_iload_n hx hb dX12_rawAt_0 rfl (lv_at hl 3 rfl) ?_
  refine lv_aload_n hx hb dX12_rawAt_1 rfl (lv_at hl 0 rfl) ?_
  refine m_get E G 10 (v := .ref (ad 10)) (by decide) (.tail _ qM_7) rfl dX12_rawAt_2 rfl ?_
  refine lv_bipush (v := 83) hx hb dX12_rawAt_5 (by decide) ?_
  refine lv_iload_n hx hb dX12_rawAt_7 rfl (lv_at hl 2 rfl) ?_
  refine lv_iadd hx hb dX12_rawAt_8 ?_
  refine lv_topi (fun v2 ev2 => ?_)
  have h := elet_at ev2 h
  clear ev2
  obtain ⟨g3, h⟩ := oif_some h
  refine m_iald E G 10 2 (n := 131) (k := v2.toNatClampNeg) rfl (inb_k g3).1 (inb_k g3).2 (by decide) dX12_rawAt_9 ?_
  refine lv_topi (fun v4 ev4 => ?_)
  have h := elet_at ev4 h
  clear ev4
  refine lv_isub hx hb dX12_rawAt_10 ?_
  refine lv_topi (fun v5 ev5 => ?_)
  have h := elet_at ev5 h
  clear ev5
  refine lv_istore (lv' := [(4, .int v5), (0, .ref (ad 0)), (1, .ref (ad 12)), (2, .int a1), (3, .int a2)]) hx hb dX12_rawAt_11 hl (by decide) rfl (fun ls hl => ?_)
  refine lv_iload hx hb dX12_rawAt_13 (lv_at hl 0 rfl) ?_
  refine lv_if_ge (tgt := 20) hx hb dX12_rawAt_15 (by decide) (fun c6 => ?_) (fun c6 => ?_)
  · have h := oif_pos c6 h
    refine lv_aload_n hx hb dX12_rawAt_20 rfl (lv_at hl 1 rfl) ?_
    refine m_get E G 21 (v := .int (S.1 21)) (by decide) (.tail _ qM_17) rfl dX12_rawAt_21 rfl ?_
    refine lv_topi (fun v7 ev7 => ?_)
    have h := elet_at ev7 h
    clear ev7
    refine lv_iconst (v := (-1)) hx hb dX12_rawAt_24 (by decide) ?_
    refine lv_icmp_eq (tgt := 65) hx hb dX12_rawAt_25 (by decide) (fun c8 => ?_) (fun c8 => ?_)
    · have h := oif_pos c8 h
      refine lv_iconst (v := 0) hx hb dX12_rawAt_65 (by decide) ?_
      refine lv_istore (lv' := [(5, .int 0), (4, .int v5), (0, .ref (ad 0)), (1, .ref (ad 12)), (2, .int a1), (3, .int a2)]) hx hb dX12_rawAt_66 hl (by decide) rfl (fun ls hl => ?_)
      refine lv_iconst (v := 0) hx hb dX12_rawAt_68 (by decide) ?_
      refine lv_istore (lv' := [(6, .int 0), (5, .int 0), (4, .int v5), (0, .ref (ad 0)), (1, .ref (ad 12)), (2, .int a1), (3, .int a2)]) hx hb dX12_rawAt_69 hl (by decide) rfl (fun ls hl => ?_)
      have hl := lv_sub hl [3, 4, 5, 2, 1, 0] rfl
      exact tr_rawAt_12_b71 E hA hR hml (fun H locs ls G => W.iret (v := r1) hx hb hr (fun t ht hW => ⟨⟨r1, S1, rfl, ⟨rfl, rfl⟩, ⟨by rw [ht]; exact G.1, va_K.moved hW.alike hK, G.2.1⟩⟩, G.2.2.F ht⟩) G.2.2.2.2 dX12_rawAt_19) (fun H locs ls G => W.iret (v := r1) hx hb hr (fun t ht hW => ⟨⟨r1, S1, rfl, ⟨rfl, rfl⟩, ⟨by rw [ht]; exact G.1, va_K.moved hW.alike hK, G.2.1⟩⟩, G.2.2.F ht⟩) G.2.2.2.2 dX12_rawAt_64) (fun H locs ls G => W.iret (v := r1) hx hb hr (fun t ht hW => ⟨⟨r1, S1, rfl, ⟨rfl, rfl⟩, ⟨by rw [ht]; exact G.1, va_K.moved hW.alike hK, G.2.1⟩⟩, G.2.2.F ht⟩) G.2.2.2.2 dX12_rawAt_148) _ _ _ _ _ _ _ _ _ h G hl
    · have h := oif_neg c8 h
      refine lv_aload_n hx hb dX12_rawAt_28 rfl (lv_at hl 1 rfl) ?_
      refine m_get E G 10 (v := .ref (ad 10)) (by decide) (.tail _ qM_7) rfl dX12_rawAt_29 rfl ?_
      refine lv_bipush (v := 35) hx hb dX12_rawAt_32 (by decide) ?_
      refine lv_iload_n hx hb dX12_rawAt_34 rfl (lv_at hl 3 rfl) ?_
      refine lv_iadd hx hb dX12_rawAt_35 ?_
      refine lv_topi (fun v9 ev9 => ?_)
      have h := elet_at ev9 h
      clear ev9
      obtain ⟨g10, h⟩ := oif_some h
      refine m_iald E G 10 2 (n := 131) (k := v9.toNatClampNeg) rfl (inb_k g10).1 (inb_k g10).2 (by decide) dX12_rawAt_36 ?_
      refine lv_topi (fun v11 ev11 => ?_)
      have h := elet_at ev11 h
      clear ev11
      refine lv_aload_n hx hb dX12_rawAt_37 rfl (lv_at hl 1 rfl) ?_
      refine lv_iload_n hx hb dX12_rawAt_38 rfl (lv_at hl 3 rfl) ?_
      refine lv_aload_n hx hb dX12_rawAt_39 rfl (lv_at hl 1 rfl) ?_
      refine lv_aload_n hx hb dX12_rawAt_40 rfl (lv_at hl 1 rfl) ?_
      refine m_get E G 21 (v := .int (S.1 21)) (by decide) (.tail _ qM_17) rfl dX12_rawAt_41 rfl ?_
      refine lv_topi (fun v12 ev12 => ?_)
      have h := elet_at ev12 h
      clear ev12
      refine lv_iconst (v := 0) hx hb dX12_rawAt_44 (by decide) ?_
      obtain ⟨r16, S13, eS13, h⟩ := obind2_some h
      refine m_calli (As := [.int v12, .int 0]) (rest := [.int a1, .ref (ad 0), .int v11]) E G hA hR hml (tr_centre l D cI cJ cZ ad S v12 0 eS13) (cwV 2 hts (gmV qM_208 qM_209 qM_210 qM_35 qM_211) rfl rfl rfl (by decide +kernel) ⟨Nat.le_of_ble_eq_true rfl, Nat.le_of_ble_eq_true rfl⟩) rfl hl.1 rfl (lv_room (Nat.le_of_ble_eq_true rfl)) dX12_rawAt_45 ⟨Nat.zero_le _, Nat.zero_le _⟩ (fun q14 S15 H locs hq G => ?_)
      obtain ⟨hq1, hq2⟩ := hq
      rw [hq2] at G
      refine lv_to hq1 ?_
      clear hq1 hq2 eS13
      refine lv_aload_n hx hb dX12_rawAt_48 rfl (lv_at hl 1 rfl) ?_
      refine lv_aload_n hx hb dX12_rawAt_49 rfl (lv_at hl 1 rfl) ?_
      refine m_get E G 21 (v := .int (S13.1 21)) (by decide) (.tail _ qM_17) rfl dX12_rawAt_50 rfl ?_
      refine lv_topi (fun v17 ev17 => ?_)
      have h := elet_at ev17 h
      clear ev17
      refine lv_iconst (v := 1) hx hb dX12_rawAt_53 (by decide) ?_
      obtain ⟨r21, S18, eS18, h⟩ := obind2_some h
      refine m_calli (As := [.int v17, .int 1]) (rest := [.int r16, .int a1, .ref (ad 0), .int v11]) E G hA hR hml (tr_centre l D cI cJ cZ ad S13 v17 1 eS18) (cwV 2 hts (gmV qM_208 qM_209 qM_210 qM_35 qM_211) rfl rfl rfl (by decide +kernel) ⟨Nat.le_of_ble_eq_true rfl, Nat.le_of_ble_eq_true rfl⟩) rfl hl.1 rfl (lv_room (Nat.le_of_ble_eq_true rfl)) dX12_rawAt_54 ⟨Nat.zero_le _, Nat.zero_le _⟩ (fun q19 S20 H locs hq G => ?_)
      obtain ⟨hq1, hq2⟩ := hq
      rw [hq2] at G
      refine lv_to hq1 ?_
      clear hq1 hq2 eS18
      refine lv_iconst (v := 0) hx hb dX12_rawAt_57 (by decide) ?_
      refine lv_iload hx hb dX12_rawAt_58 (lv_at hl 0 rfl) ?_
      obtain ⟨r25, S22, eS22, h⟩ := obind2_some h
      refine m_calli (As := [.int a1, .int r16, .int r21, .int 0, .int v5]) (rest := [.int v11]) E G hA hR hml (tr_heardOf l D cI cJ cZ ad S18 a1 r16 r21 0 v5 eS22) (cwV 5 hts (gmV qM_228 qM_229 qM_230 qM_35 qM_231) rfl rfl rfl (by decide +kernel) ⟨Nat.le_of_ble_eq_true rfl, Nat.le_of_ble_eq_true rfl⟩) rfl hl.1 rfl (lv_room (Nat.le_of_ble_eq_true rfl)) dX12_rawAt_60 ⟨Nat.zero_le _, Nat.zero_le _⟩ (fun q23 S24 H locs hq G => ?_)
      obtain ⟨hq1, hq2⟩ := hq
      rw [hq2] at G
      refine lv_to hq1 ?_
      clear hq1 hq2 eS22
      refine lv_imul hx hb dX12_rawAt_63 ?_
      refine lv_topi (fun v26 ev26 => ?_)
      have h := elet_at ev26 h
      clear ev26
      exact W.iret (v := v26) hx hb hr (fun t ht hW => ⟨⟨v26, S22, rfl, osome2 h, ⟨by rw [ht]; exact G.1, va_K.moved hW.alike hK, G.2.1⟩⟩, G.2.2.F ht⟩) G.2.2.2.2 dX12_rawAt_64
  · have h := oif_neg c6 h
    refine lv_iconst (v := 0) hx hb dX12_rawAt_18 (by decide) ?_
    exact W.iret (v := 0) hx hb hr (fun t ht hW => ⟨⟨0, S, rfl, osome2 h, ⟨by rw [ht]; exact G.1, va_K.moved hW.alike hK, G.2.1⟩⟩, G.2.2.F ht⟩) G.2.2.2.2 dX12_rawAt_19
def fr_filtered_b64  (S : MS) (l2 : Int32) : Option (Int32 × MS) := some (l2, S)
set_option maxHeartbeats 4000000 in
set_option maxRecDepth 100000 in
theorem tr_filtered_b64 {p : Program} {l : Launch} {e : Env} {s : State} {m : MethodId} {args : Array Value} {below : List Frame} {meth : Method} {c : Code} {Q : State → Prop} {D : va_G} {A : Nat → Prop} {H0 : Heap} {cI cJ cZ : ClassId} {ad : Nat → Nat} {r1 : Int32} {S1 : MS} (E : mE p c cX12_filtered s m args (Cond.code yX12_filtered cX12_filtered 4 (some .int) :: wsM) D cI cJ cZ) (hA : ∀ q : Nat, H0.size ≤ q → A q) (hR : sR s) (hml : c.maxLocals = 4) (kr16 : ∀ (H : Heap) (locs : List Loc) (ls : Array Slot), mG D cI cJ cZ ad A H0 H locs S1 → W p l e { frames := 1, cells := 0, slots := 0, locals := 0 } s m args below meth c H locs 0 0 Q (F0 m 16 ls [.int r1])) (kr65 : ∀ (H : Heap) (locs : List Loc) (ls : Array Slot), mG D cI cJ cZ ad A H0 H locs S1 → W p l e { frames := 1, cells := 0, slots := 0, locals := 0 } s m args below meth c H locs 0 0 Q (F0 m 65 ls [.int r1])) : ∀ (S : MS) (H : Heap) (locs : List Loc) (ls : Array Slot) (l2 : Int32), fr_filtered_b64 S l2 = some (r1, S1) → mG D cI cJ cZ ad A H0 H locs S → lv_has ls 4 [(2, .int l2)] → W p l e { frames := 1, cells := 0, slots := 0, locals := 0 } s m args below meth c H locs 0 0 Q (F0 m 64 ls []) := by
  have hx := E.1
  have hb := E.2.1
  have hts := E.2.2.1
  have hown := E.2.2.2.1
  have hK := E.2.2.2.2.1
  intro S H locs ls l2 h G hl
  unfold fr_filtered_b64 at h
  refine lv_iload_n hx hb dX12_filtered_64 rfl (lv_at hl 0 rfl) ?_
  rw [(osome2 h).2] at G
  refine lv_to (osome2 h).1 ?_
  exact kr65 _ _ _ G
def fr_filtered_b21  : Nat → MS → Int32 → Int32 → Int32 → Option (Int32 × MS)
  | 0, _, _, _, _ => none
  | n + 1, S, l1, l2, l3 => elet (S.2.1 10 77) fun v2 => if v2 ≤ l3 then (fr_filtered_b64 S l2) else (if l1 < l3 then (fr_filtered_b64 S l2) else (elet (78 + l3) fun v5 => oif (inb v5 131 = true) <| elet (S.2.1 10 v5.toNatClampNeg) fun v7 => elet (l1 - l3) fun v8 => oif (inb v8 200 = true) <| elet (S.2.1 23 v8.toNatClampNeg) fun v10 => elet (v7 * v10) fun v11 => elet (l2 + v11) fun v12 => elet (l3 + Int32.ofInt (1)) fun v13 => fr_filtered_b21 n S l1 v12 v13))
set_option maxHeartbeats 4000000 in
set_option maxRecDepth 100000 in
theorem tr_filtered_b21 {p : Program} {l : Launch} {e : Env} {s : State} {m : MethodId} {args : Array Value} {below : List Frame} {meth : Method} {c : Code} {Q : State → Prop} {D : va_G} {A : Nat → Prop} {H0 : Heap} {cI cJ cZ : ClassId} {ad : Nat → Nat} {r1 : Int32} {S1 : MS} (E : mE p c cX12_filtered s m args (Cond.code yX12_filtered cX12_filtered 4 (some .int) :: wsM) D cI cJ cZ) (hA : ∀ q : Nat, H0.size ≤ q → A q) (hR : sR s) (hml : c.maxLocals = 4) (kr16 : ∀ (H : Heap) (locs : List Loc) (ls : Array Slot), mG D cI cJ cZ ad A H0 H locs S1 → W p l e { frames := 1, cells := 0, slots := 0, locals := 0 } s m args below meth c H locs 0 0 Q (F0 m 16 ls [.int r1])) (kr65 : ∀ (H : Heap) (locs : List Loc) (ls : Array Slot), mG D cI cJ cZ ad A H0 H locs S1 → W p l e { frames := 1, cells := 0, slots := 0, locals := 0 } s m args below meth c H locs 0 0 Q (F0 m 65 ls [.int r1])) : ∀ n : Nat, ∀ (S : MS) (H : Heap) (locs : List Loc) (ls : Array Slot) (l1 : Int32) (l2 : Int32) (l3 : Int32), fr_filtered_b21 n S l1 l2 l3 = some (r1, S1) → mG D cI cJ cZ ad A H0 H locs S → lv_has ls 4 [(0, .ref (ad 0)), (1, .int l1), (2, .int l2), (3, .int l3)] → W p l e { frames := 1, cells := 0, slots := 0, locals := 0 } s m args below meth c H locs 0 0 Q (F0 m 21 ls []) := by
  have hx := E.1
  have hb := E.2.1
  have hts := E.2.2.1
  have hown := E.2.2.2.1
  have hK := E.2.2.2.2.1
  intro n
  induction n with
  | zero =>
    intro S H locs ls l1 l2 l3 h
    have h : (none : Option (Int32 × MS)) = some (r1, S1) := h
    cases h
  | succ n ih =>
    intro S H locs ls l1 l2 l3 h G hl
    unfold fr_filtered_b21 at h
    refine lv_iload_n hx hb dX12_filtered_21 rfl (lv_at hl 3 rfl) ?_
    refine lv_aload_n hx hb dX12_filtered_22 rfl (lv_at hl 0 rfl) ?_
    refine m_get E G 10 (v := .ref (ad 10)) (by decide) (.tail _ qM_7) rfl dX12_filtered_23 rfl ?_
    refine lv_bipush (v := 77) hx hb dX12_filtered_26 (by decide) ?_
    refine m_iald E G 10 2 (n := 131) (k := 77) rfl rfl (by decide) (by decide) dX12_filtered_28 ?_
    refine lv_topi (fun v2 ev2 => ?_)
    have h := elet_at ev2 h
    clear ev2
    refine lv_icmp_ge (tgt := 64) hx hb dX12_filtered_29 (by decide) (fun c3 => ?_) (fun c3 => ?_)
    · have h := oif_pos c3 h
      have hl := lv_sub hl [2] rfl
      exact tr_filtered_b64 E hA hR hml kr16 kr65 _ _ _ _ _ h G hl
    · have h := oif_neg c3 h
      refine lv_iload_n hx hb dX12_filtered_32 rfl (lv_at hl 3 rfl) ?_
      refine lv_iload_n hx hb dX12_filtered_33 rfl (lv_at hl 1 rfl) ?_
      refine lv_icmp_gt (tgt := 64) hx hb dX12_filtered_34 (by decide) (fun c4 => ?_) (fun c4 => ?_)
      · have h := oif_pos c4 h
        have hl := lv_sub hl [2] rfl
        exact tr_filtered_b64 E hA hR hml kr16 kr65 _ _ _ _ _ h G hl
      · have h := oif_neg c4 h
        refine lv_iload_n hx hb dX12_filtered_37 rfl (lv_at hl 2 rfl) ?_
        refine lv_aload_n hx hb dX12_filtered_38 rfl (lv_at hl 0 rfl) ?_
        refine m_get E G 10 (v := .ref (ad 10)) (by decide) (.tail _ qM_7) rfl dX12_filtered_39 rfl ?_
        refine lv_bipush (v := 78) hx hb dX12_filtered_42 (by decide) ?_
        refine lv_iload_n hx hb dX12_filtered_44 rfl (lv_at hl 3 rfl) ?_
        refine lv_iadd hx hb dX12_filtered_45 ?_
        refine lv_topi (fun v5 ev5 => ?_)
        have h := elet_at ev5 h
        clear ev5
        obtain ⟨g6, h⟩ := oif_some h
        refine m_iald E G 10 2 (n := 131) (k := v5.toNatClampNeg) rfl (inb_k g6).1 (inb_k g6).2 (by decide) dX12_filtered_46 ?_
        refine lv_topi (fun v7 ev7 => ?_)
        have h := elet_at ev7 h
        clear ev7
        refine lv_aload_n hx hb dX12_filtered_47 rfl (lv_at hl 0 rfl) ?_
        refine m_get E G 23 (v := .ref (ad 23)) (by decide) (.tail _ qM_18) rfl dX12_filtered_48 rfl ?_
        refine lv_iload_n hx hb dX12_filtered_51 rfl (lv_at hl 1 rfl) ?_
        refine lv_iload_n hx hb dX12_filtered_52 rfl (lv_at hl 3 rfl) ?_
        refine lv_isub hx hb dX12_filtered_53 ?_
        refine lv_topi (fun v8 ev8 => ?_)
        have h := elet_at ev8 h
        clear ev8
        obtain ⟨g9, h⟩ := oif_some h
        refine m_iald E G 23 11 (n := 200) (k := v8.toNatClampNeg) rfl (inb_k g9).1 (inb_k g9).2 (by decide) dX12_filtered_54 ?_
        refine lv_topi (fun v10 ev10 => ?_)
        have h := elet_at ev10 h
        clear ev10
        refine lv_imul hx hb dX12_filtered_55 ?_
        refine lv_topi (fun v11 ev11 => ?_)
        have h := elet_at ev11 h
        clear ev11
        refine lv_iadd hx hb dX12_filtered_56 ?_
        refine lv_topi (fun v12 ev12 => ?_)
        have h := elet_at ev12 h
        clear ev12
        refine lv_istore_n (lv' := [(2, .int v12), (0, .ref (ad 0)), (1, .int l1), (3, .int l3)]) hx hb dX12_filtered_57 rfl hl (by decide) rfl (fun ls hl => ?_)
        obtain ⟨v13, ev13, h⟩ := elet_some h
        refine lv_iinc (v := v13) (lv' := [(3, .int v13), (2, .int v12), (0, .ref (ad 0)), (1, .int l1)]) hx hb dX12_filtered_58 hl (k := 3) rfl ev13.symm (by decide) rfl (fun ls hl => ?_)
        refine lv_goto (tgt := 21) hx hb dX12_filtered_61 (by decide) ?_
        have hl := lv_sub hl [2, 3, 1, 0] rfl
        exact ih _ _ _ _ _ _ _ h G hl
def fr_filtered (S : MS) (a0 : Int32) : Option (Int32 × MS) := elet (S.2.1 10 77) fun v2 => if v2 = 0 then (oif (inb a0 200 = true) <| elet (S.2.1 23 a0.toNatClampNeg) fun v5 => some (v5, S)) else (fr_filtered_b21 16384 S a0 0 0)
set_option maxHeartbeats 4000000 in
set_option maxRecDepth 100000 in
theorem tr_filtered (l : Launch) (D : va_G) (cI cJ cZ : ClassId) (ad : Nat → Nat) (S : MS) (a0 : Int32) {r1 : Int32} {S1 : MS} (h : fr_filtered S a0 = some (r1, S1)) : mCi l yX12_filtered (Cond.code yX12_filtered cX12_filtered 4 (some .int) :: wsM) 1 0 D cI cJ cZ ad S [.int a0] (fun r S9 => r = r1 ∧ S9 = S1) := by
  intro sz
  refine pro_in (cc := cX12_filtered) (maxL := 4) (ret := (some .int)) (by exact pn_RX12) rfl (by exact Nat.le_of_ble_eq_true rfl) (fun p e s m below meth c ls hx hb hr hts hown hlocks hml hv hl => ?_)
  obtain ⟨hsz, hP, hK, hD0, hR⟩ := hv
  subst hsz
  have hD := hD0.self (sz := s.heap.size)
  generalize hAe : va_A (MW cI cJ cZ ad S) s.heap.size = A at hD ⊢
  have hA : ∀ q : Nat, s.heap.size ≤ q → A q := fun q h => by rw [← hAe]; exact Or.inr h
  have G : mG D cI cJ cZ ad A s.heap s.heap [] S := ⟨hP, hD, va_S.rf⟩
  have E : mE p c cX12_filtered s m ([.ref (ad 0), .int a0] : List Value).toArray (Cond.code yX12_filtered cX12_filtered 4 (some .int) :: wsM) D cI cJ cZ := ⟨hx, hb, hts, hown, hK, fun w h => .tail _ (iM_x h)⟩
  have hl : lv_has ls 4 [(0, .ref (ad 0)), (1, .int a0)] := hl
  unfold fr_filtered at h
  refine lv_aload_n hx hb dX12_filtered_0 rfl (lv_at hl 0 rfl) ?_
  refine m_get E G 10 (v := .ref (ad 10)) (by decide) (.tail _ qM_7) rfl dX12_filtered_1 rfl ?_
  refine lv_bipush (v := 77) hx hb dX12_filtered_4 (by decide) ?_
  refine m_iald E G 10 2 (n := 131) (k := 77) rfl rfl (by decide) (by decide) dX12_filtered_6 ?_
  refine lv_topi (fun v2 ev2 => ?_)
  have h := elet_at ev2 h
  clear ev2
  refine lv_if_ne (tgt := 17) hx hb dX12_filtered_7 (by decide) (fun c3 => ?_) (fun c3 => ?_)
  · have h := oif_neg c3 h
    refine lv_iconst (v := 0) hx hb dX12_filtered_17 (by decide) ?_
    refine lv_istore_n (lv' := [(2, .int 0), (0, .ref (ad 0)), (1, .int a0)]) hx hb dX12_filtered_18 rfl hl (by decide) rfl (fun ls hl => ?_)
    refine lv_iconst (v := 0) hx hb dX12_filtered_19 (by decide) ?_
    refine lv_istore_n (lv' := [(3, .int 0), (2, .int 0), (0, .ref (ad 0)), (1, .int a0)]) hx hb dX12_filtered_20 rfl hl (by decide) rfl (fun ls hl => ?_)
    have hl := lv_sub hl [2, 3, 1, 0] rfl
    exact tr_filtered_b21 E hA hR hml (fun H locs ls G => W.iret (v := r1) hx hb hr (fun t ht hW => ⟨⟨r1, S1, rfl, ⟨rfl, rfl⟩, ⟨by rw [ht]; exact G.1, va_K.moved hW.alike hK, G.2.1⟩⟩, G.2.2.F ht⟩) G.2.2.2.2 dX12_filtered_16) (fun H locs ls G => W.iret (v := r1) hx hb hr (fun t ht hW => ⟨⟨r1, S1, rfl, ⟨rfl, rfl⟩, ⟨by rw [ht]; exact G.1, va_K.moved hW.alike hK, G.2.1⟩⟩, G.2.2.F ht⟩) G.2.2.2.2 dX12_filtered_65) _ _ _ _ _ _ _ _ h G hl
  · have h := oif_pos c3 h
    refine lv_aload_n hx hb dX12_filtered_10 rfl (lv_at hl 0 rfl) ?_
    refine m_get E G 23 (v := .ref (ad 23)) (by decide) (.tail _ qM_18) rfl dX12_filtered_11 rfl ?_
    refine lv_iload_n hx hb dX12_filtered_14 rfl (lv_at hl 1 rfl) ?_
    obtain ⟨g4, h⟩ := oif_some h
    refine m_iald E G 23 11 (n := 200) (k := a0.toNatClampNeg) rfl (inb_k g4).1 (inb_k g4).2 (by decide) dX12_filtered_15 ?_
    refine lv_topi (fun v5 ev5 => ?_)
    have h := elet_at ev5 h
    clear ev5
    exact W.iret (v := v5) hx hb hr (fun t ht hW => ⟨⟨v5, S, rfl, osome2 h, ⟨by rw [ht]; exact G.1, va_K.moved hW.alike hK, G.2.1⟩⟩, G.2.2.F ht⟩) G.2.2.2.2 dX12_filtered_16
def fr_bounded (S : MS) (a0 : Int32) : Option (Int32 × MS) := elet (S.2.1 10 3) fun v2 => elet (-v2) fun v3 => elet (S.2.1 10 3) fun v4 => elet (if a0 < v4 then a0 else v4) fun v5 => elet (if v3 < v5 then v5 else v3) fun v6 => some (v6, S)
set_option maxHeartbeats 4000000 in
set_option maxRecDepth 100000 in
theorem tr_bounded (l : Launch) (D : va_G) (cI cJ cZ : ClassId) (ad : Nat → Nat) (S : MS) (a0 : Int32) {r1 : Int32} {S1 : MS} (h : fr_bounded S a0 = some (r1, S1)) : mCi l yX12_bounded (Cond.code yX12_bounded cX12_bounded 2 (some .int) :: wsM) 1 17 D cI cJ cZ ad S [.int a0] (fun r S9 => r = r1 ∧ S9 = S1) := by
  intro sz
  refine pro_in (cc := cX12_bounded) (maxL := 2) (ret := (some .int)) (by exact pn_RX12) rfl (by exact Nat.le_of_ble_eq_true rfl) (fun p e s m below meth c ls hx hb hr hts hown hlocks hml hv hl => ?_)
  obtain ⟨hsz, hP, hK, hD0, hR⟩ := hv
  subst hsz
  have hD := hD0.self (sz := s.heap.size)
  generalize hAe : va_A (MW cI cJ cZ ad S) s.heap.size = A at hD ⊢
  have hA : ∀ q : Nat, s.heap.size ≤ q → A q := fun q h => by rw [← hAe]; exact Or.inr h
  have G : mG D cI cJ cZ ad A s.heap s.heap [] S := ⟨hP, hD, va_S.rf⟩
  have E : mE p c cX12_bounded s m ([.ref (ad 0), .int a0] : List Value).toArray (Cond.code yX12_bounded cX12_bounded 2 (some .int) :: wsM) D cI cJ cZ := ⟨hx, hb, hts, hown, hK, fun w h => .tail _ (iM_x h)⟩
  have hl : lv_has ls 2 [(0, .ref (ad 0)), (1, .int a0)] := hl
  unfold fr_bounded at h
  refine lv_aload_n hx hb dX12_bounded_0 rfl (lv_at hl 0 rfl) ?_
  refine m_get E G 10 (v := .ref (ad 10)) (by decide) (.tail _ qM_7) rfl dX12_bounded_1 rfl ?_
  refine lv_iconst (v := 3) hx hb dX12_bounded_4 (by decide) ?_
  refine m_iald E G 10 2 (n := 131) (k := 3) rfl rfl (by decide) (by decide) dX12_bounded_5 ?_
  refine lv_topi (fun v2 ev2 => ?_)
  have h := elet_at ev2 h
  clear ev2
  refine lv_ineg hx hb dX12_bounded_6 ?_
  refine lv_topi (fun v3 ev3 => ?_)
  have h := elet_at ev3 h
  clear ev3
  refine lv_aload_n hx hb dX12_bounded_7 rfl (lv_at hl 0 rfl) ?_
  refine m_get E G 10 (v := .ref (ad 10)) (by decide) (.tail _ qM_7) rfl dX12_bounded_8 rfl ?_
  refine lv_iconst (v := 3) hx hb dX12_bounded_11 (by decide) ?_
  refine m_iald E G 10 2 (n := 131) (k := 3) rfl rfl (by decide) (by decide) dX12_bounded_12 ?_
  refine lv_topi (fun v4 ev4 => ?_)
  have h := elet_at ev4 h
  clear ev4
  refine lv_iload_n hx hb dX12_bounded_13 rfl (lv_at hl 1 rfl) ?_
  refine va_mmin hx hb (hml.trans hl.1.symm) hown (hts _ (.tail _ qM_262)) (hts _ (.tail _ qM_263)) (hts _ (.tail _ qM_247)) (hts _ (.tail _ qM_264)) (Nat.le_of_ble_eq_true rfl) (Nat.le_of_ble_eq_true rfl) (Nat.zero_le _) (Nat.zero_le _) dX12_bounded_14 ?_
  refine lv_topi (fun v5 ev5 => ?_)
  have h := elet_at ev5 h
  clear ev5
  refine va_mmax hx hb (hml.trans hl.1.symm) hown (hts _ (.tail _ qM_265)) (hts _ (.tail _ qM_266)) (hts _ (.tail _ qM_247)) (hts _ (.tail _ qM_267)) (Nat.le_of_ble_eq_true rfl) (Nat.le_of_ble_eq_true rfl) (Nat.zero_le _) (Nat.zero_le _) dX12_bounded_17 ?_
  refine lv_topi (fun v6 ev6 => ?_)
  have h := elet_at ev6 h
  clear ev6
  exact W.iret (v := v6) hx hb hr (fun t ht hW => ⟨⟨v6, S, rfl, osome2 h, ⟨by rw [ht]; exact G.1, va_K.moved hW.alike hK, G.2.1⟩⟩, G.2.2.F ht⟩) G.2.2.2.2 dX12_bounded_20
def fr_records_12_b49 (k6 : MS → Int32 → Option (MS)) : Nat → MS → Int32 → Int32 → Option (MS)
  | 0, _, _, _ => none
  | n + 1, S, l2, l3 => elet (S.2.1 10 2) fun v2 => if v2 ≤ l3 then (elet (l2 + Int32.ofInt (1)) fun v4 => k6 S v4) else (elet (200 * l2) fun v5 => elet (55 + v5) fun v6 => elet (v6 + l3) fun v7 => obind2 (fr_filtered S l3) fun r11 S8 => obind2 (fr_bounded S8 r11) fun r15 S12 => oif (inb v7 2455 = true) <| elet (mf S12 12 (upd (S12.2.1 12) v7.toNatClampNeg r15)) fun S17 => elet (l3 + Int32.ofInt (1)) fun v18 => fr_records_12_b49 k6 n S17 l2 v18)
set_option maxHeartbeats 4000000 in
set_option maxRecDepth 100000 in
theorem tr_records_12_b49 {p : Program} {l : Launch} {e : Env} {s : State} {m : MethodId} {args : Array Value} {below : List Frame} {meth : Method} {c : Code} {Q : State → Prop} {D : va_G} {A : Nat → Prop} {H0 : Heap} {cI cJ cZ : ClassId} {ad : Nat → Nat} {S1 : MS} (E : mE p c cX12_records s m args (Cond.code yX12_records cX12_records 4 none :: wsM) D cI cJ cZ) (hA : ∀ q : Nat, H0.size ≤ q → A q) (hR : sR s) (hml : c.maxLocals = 4) (kr92 : ∀ (H : Heap) (locs : List Loc) (ls : Array Slot), mG D cI cJ cZ ad A H0 H locs S1 → W p l e { frames := 6, cells := 0, slots := 0, locals := 146 } s m args below meth c H locs 0 0 Q (F0 m 92 ls [])) {k6 : MS → Int32 → Option (MS)} (hk6 : ∀ (S : MS) (H : Heap) (locs : List Loc) (ls : Array Slot) (l2 : Int32), k6 S l2 = some S1 → mG D cI cJ cZ ad A H0 H locs S → lv_has ls 4 [(0, .ref (ad 0)), (1, .ref (ad 12)), (2, .int l2)] → W p l e { frames := 6, cells := 0, slots := 0, locals := 146 } s m args below meth c H locs 0 0 Q (F0 m 6 ls [])) : ∀ n : Nat, ∀ (S : MS) (H : Heap) (locs : List Loc) (ls : Array Slot) (l2 : Int32) (l3 : Int32), fr_records_12_b49 k6 n S l2 l3 = some S1 → mG D cI cJ cZ ad A H0 H locs S → lv_has ls 4 [(0, .ref (ad 0)), (1, .ref (ad 12)), (2, .int l2), (3, .int l3)] → W p l e { frames := 6, cells := 0, slots := 0, locals := 146 } s m args below meth c H locs 0 0 Q (F0 m 49 ls []) := by
  have hx := E.1
  have hb := E.2.1
  have hts := E.2.2.1
  have hown := E.2.2.2.1
  have hK := E.2.2.2.2.1
  intro n
  induction n with
  | zero =>
    intro S H locs ls l2 l3 h
    have h : (none : Option (MS)) = some S1 := h
    cases h
  | succ n ih =>
    intro S H locs ls l2 l3 h G hl
    unfold fr_records_12_b49 at h
    refine lv_iload_n hx hb dX12_records_49 rfl (lv_at hl 3 rfl) ?_
    refine lv_aload_n hx hb dX12_records_50 rfl (lv_at hl 0 rfl) ?_
    refine m_get E G 10 (v := .ref (ad 10)) (by decide) (.tail _ qM_7) rfl dX12_records_51 rfl ?_
    refine lv_iconst (v := 2) hx hb dX12_records_54 (by decide) ?_
    refine m_iald E G 10 2 (n := 131) (k := 2) rfl rfl (by decide) (by decide) dX12_records_55 ?_
    refine lv_topi (fun v2 ev2 => ?_)
    have h := elet_at ev2 h
    clear ev2
    refine lv_icmp_ge (tgt := 86) hx hb dX12_records_56 (by decide) (fun c3 => ?_) (fun c3 => ?_)
    · have h := oif_pos c3 h
      obtain ⟨v4, ev4, h⟩ := elet_some h
      refine lv_iinc (v := v4) (lv' := [(2, .int v4), (0, .ref (ad 0)), (1, .ref (ad 12)), (3, .int l3)]) hx hb dX12_records_86 hl (k := 2) rfl ev4.symm (by decide) rfl (fun ls hl => ?_)
      refine lv_goto (tgt := 6) hx hb dX12_records_89 (by decide) ?_
      have hl := lv_sub hl [1, 2, 0] rfl
      exact hk6 _ _ _ _ _ h G hl
    · have h := oif_neg c3 h
      refine lv_aload_n hx hb dX12_records_59 rfl (lv_at hl 1 rfl) ?_
      refine lv_bipush (v := 55) hx hb dX12_records_60 (by decide) ?_
      refine lv_sipush (v := 200) hx hb dX12_records_62 (by decide) ?_
      refine lv_iload_n hx hb dX12_records_65 rfl (lv_at hl 2 rfl) ?_
      refine lv_imul hx hb dX12_records_66 ?_
      refine lv_topi (fun v5 ev5 => ?_)
      have h := elet_at ev5 h
      clear ev5
      refine lv_iadd hx hb dX12_records_67 ?_
      refine lv_topi (fun v6 ev6 => ?_)
      have h := elet_at ev6 h
      clear ev6
      refine lv_iload_n hx hb dX12_records_68 rfl (lv_at hl 3 rfl) ?_
      refine lv_iadd hx hb dX12_records_69 ?_
      refine lv_topi (fun v7 ev7 => ?_)
      have h := elet_at ev7 h
      clear ev7
      refine lv_aload_n hx hb dX12_records_70 rfl (lv_at hl 0 rfl) ?_
      refine lv_aload_n hx hb dX12_records_71 rfl (lv_at hl 0 rfl) ?_
      refine lv_iload_n hx hb dX12_records_72 rfl (lv_at hl 3 rfl) ?_
      obtain ⟨r11, S8, eS8, h⟩ := obind2_some h
      refine m_calli (As := [.int l3]) (rest := [.ref (ad 0), .int v7, .ref (ad 12)]) E G hA hR hml (tr_filtered l D cI cJ cZ ad S l3 eS8) (cwV 1 hts (gmV qM_254 qM_255 qM_256 qM_35 qM_257) rfl rfl rfl (by decide +kernel) ⟨Nat.le_of_ble_eq_true rfl, Nat.le_of_ble_eq_true rfl⟩) rfl hl.1 rfl (lv_room (Nat.le_of_ble_eq_true rfl)) dX12_records_73 ⟨Nat.zero_le _, Nat.zero_le _⟩ (fun q9 S10 H locs hq G => ?_)
      obtain ⟨hq1, hq2⟩ := hq
      rw [hq2] at G
      refine lv_to hq1 ?_
      clear hq1 hq2 eS8
      obtain ⟨r15, S12, eS12, h⟩ := obind2_some h
      refine m_calli (As := [.int r11]) (rest := [.int v7, .ref (ad 12)]) E G hA hR hml (tr_bounded l D cI cJ cZ ad S8 r11 eS12) (cwV 1 hts (gmV qM_258 qM_259 qM_260 qM_35 qM_261) rfl rfl rfl (by decide +kernel) ⟨Nat.le_of_ble_eq_true rfl, Nat.le_of_ble_eq_true rfl⟩) rfl hl.1 rfl (lv_room (Nat.le_of_ble_eq_true rfl)) dX12_records_76 ⟨Nat.zero_le _, Nat.zero_le _⟩ (fun q13 S14 H locs hq G => ?_)
      obtain ⟨hq1, hq2⟩ := hq
      rw [hq2] at G
      refine lv_to hq1 ?_
      clear hq1 hq2 eS12
      obtain ⟨g16, h⟩ := oif_some h
      refine m_iast E G 12 4 (k := v7.toNatClampNeg) (v := r15) rfl (fun _ => rfl) (inb_k g16).1 (inb_k g16).2 (by decide) dX12_records_79 (fun H locs G => ?_)
      obtain ⟨S17, eS17, h⟩ := elet_some h
      rw [← eS17] at G
      clear eS17
      obtain ⟨v18, ev18, h⟩ := elet_some h
      refine lv_iinc (v := v18) (lv' := [(3, .int v18), (0, .ref (ad 0)), (1, .ref (ad 12)), (2, .int l2)]) hx hb dX12_records_80 hl (k := 3) rfl ev18.symm (by decide) rfl (fun ls hl => ?_)
      refine lv_goto (tgt := 49) hx hb dX12_records_83 (by decide) ?_
      have hl := lv_sub hl [1, 2, 3, 0] rfl
      exact ih _ _ _ _ _ _ h G hl
def fr_records_12_b18 (k6 : MS → Int32 → Option (MS)) : Nat → MS → Int32 → Int32 → Option (MS)
  | 0, _, _, _ => none
  | n + 1, S, l2, l3 => elet (S.2.1 10 2) fun v2 => if v2 ≤ l3 then (fr_records_12_b49 k6 16384 S l2 0) else (obind2 (fr_rawAt_12 S l2 l3) fun r7 S4 => oif (inb l3 200 = true) <| elet (mf S4 23 (upd (S4.2.1 23) l3.toNatClampNeg r7)) fun S9 => elet (l3 + Int32.ofInt (1)) fun v10 => fr_records_12_b18 k6 n S9 l2 v10)
set_option maxHeartbeats 4000000 in
set_option maxRecDepth 100000 in
theorem tr_records_12_b18 {p : Program} {l : Launch} {e : Env} {s : State} {m : MethodId} {args : Array Value} {below : List Frame} {meth : Method} {c : Code} {Q : State → Prop} {D : va_G} {A : Nat → Prop} {H0 : Heap} {cI cJ cZ : ClassId} {ad : Nat → Nat} {S1 : MS} (E : mE p c cX12_records s m args (Cond.code yX12_records cX12_records 4 none :: wsM) D cI cJ cZ) (hA : ∀ q : Nat, H0.size ≤ q → A q) (hR : sR s) (hml : c.maxLocals = 4) (kr92 : ∀ (H : Heap) (locs : List Loc) (ls : Array Slot), mG D cI cJ cZ ad A H0 H locs S1 → W p l e { frames := 6, cells := 0, slots := 0, locals := 146 } s m args below meth c H locs 0 0 Q (F0 m 92 ls [])) {k6 : MS → Int32 → Option (MS)} (hk6 : ∀ (S : MS) (H : Heap) (locs : List Loc) (ls : Array Slot) (l2 : Int32), k6 S l2 = some S1 → mG D cI cJ cZ ad A H0 H locs S → lv_has ls 4 [(0, .ref (ad 0)), (1, .ref (ad 12)), (2, .int l2)] → W p l e { frames := 6, cells := 0, slots := 0, locals := 146 } s m args below meth c H locs 0 0 Q (F0 m 6 ls [])) : ∀ n : Nat, ∀ (S : MS) (H : Heap) (locs : List Loc) (ls : Array Slot) (l2 : Int32) (l3 : Int32), fr_records_12_b18 k6 n S l2 l3 = some S1 → mG D cI cJ cZ ad A H0 H locs S → lv_has ls 4 [(0, .ref (ad 0)), (1, .ref (ad 12)), (2, .int l2), (3, .int l3)] → W p l e { frames := 6, cells := 0, slots := 0, locals := 146 } s m args below meth c H locs 0 0 Q (F0 m 18 ls []) := by
  have hx := E.1
  have hb := E.2.1
  have hts := E.2.2.1
  have hown := E.2.2.2.1
  have hK := E.2.2.2.2.1
  intro n
  induction n with
  | zero =>
    intro S H locs ls l2 l3 h
    have h : (none : Option (MS)) = some S1 := h
    cases h
  | succ n ih =>
    intro S H locs ls l2 l3 h G hl
    unfold fr_records_12_b18 at h
    refine lv_iload_n hx hb dX12_records_18 rfl (lv_at hl 3 rfl) ?_
    refine lv_aload_n hx hb dX12_records_19 rfl (lv_at hl 0 rfl) ?_
    refine m_get E G 10 (v := .ref (ad 10)) (by decide) (.tail _ qM_7) rfl dX12_records_20 rfl ?_
    refine lv_iconst (v := 2) hx hb dX12_records_23 (by decide) ?_
    refine m_iald E G 10 2 (n := 131) (k := 2) rfl rfl (by decide) (by decide) dX12_records_24 ?_
    refine lv_topi (fun v2 ev2 => ?_)
    have h := elet_at ev2 h
    clear ev2
    refine lv_icmp_ge (tgt := 47) hx hb dX12_records_25 (by decide) (fun c3 => ?_) (fun c3 => ?_)
    · have h := oif_pos c3 h
      refine lv_iconst (v := 0) hx hb dX12_records_47 (by decide) ?_
      refine lv_istore_n (lv' := [(3, .int 0), (0, .ref (ad 0)), (1, .ref (ad 12)), (2, .int l2)]) hx hb dX12_records_48 rfl hl (by decide) rfl (fun ls hl => ?_)
      have hl := lv_sub hl [1, 2, 3, 0] rfl
      exact tr_records_12_b49 E hA hR hml kr92 hk6 _ _ _ _ _ _ _ h G hl
    · have h := oif_neg c3 h
      refine lv_aload_n hx hb dX12_records_28 rfl (lv_at hl 0 rfl) ?_
      refine m_get E G 23 (v := .ref (ad 23)) (by decide) (.tail _ qM_18) rfl dX12_records_29 rfl ?_
      refine lv_iload_n hx hb dX12_records_32 rfl (lv_at hl 3 rfl) ?_
      refine lv_aload_n hx hb dX12_records_33 rfl (lv_at hl 0 rfl) ?_
      refine lv_aload_n hx hb dX12_records_34 rfl (lv_at hl 1 rfl) ?_
      refine lv_iload_n hx hb dX12_records_35 rfl (lv_at hl 2 rfl) ?_
      refine lv_iload_n hx hb dX12_records_36 rfl (lv_at hl 3 rfl) ?_
      obtain ⟨r7, S4, eS4, h⟩ := obind2_some h
      refine m_calli (As := [.ref (ad 12), .int l2, .int l3]) (rest := [.int l3, .ref (ad 23)]) E G hA hR hml (tr_rawAt_12 l D cI cJ cZ ad S l2 l3 eS4) (cwV 3 hts (gmV qM_224 qM_225 qM_226 qM_35 qM_227) rfl rfl rfl (by decide +kernel) ⟨Nat.le_of_ble_eq_true rfl, Nat.le_of_ble_eq_true rfl⟩) rfl hl.1 rfl (lv_room (Nat.le_of_ble_eq_true rfl)) dX12_records_37 ⟨Nat.zero_le _, Nat.zero_le _⟩ (fun q5 S6 H locs hq G => ?_)
      obtain ⟨hq1, hq2⟩ := hq
      rw [hq2] at G
      refine lv_to hq1 ?_
      clear hq1 hq2 eS4
      obtain ⟨g8, h⟩ := oif_some h
      refine m_iast E G 23 11 (k := l3.toNatClampNeg) (v := r7) rfl (fun _ => rfl) (inb_k g8).1 (inb_k g8).2 (by decide) dX12_records_40 (fun H locs G => ?_)
      obtain ⟨S9, eS9, h⟩ := elet_some h
      rw [← eS9] at G
      clear eS9
      obtain ⟨v10, ev10, h⟩ := elet_some h
      refine lv_iinc (v := v10) (lv' := [(3, .int v10), (0, .ref (ad 0)), (1, .ref (ad 12)), (2, .int l2)]) hx hb dX12_records_41 hl (k := 3) rfl ev10.symm (by decide) rfl (fun ls hl => ?_)
      refine lv_goto (tgt := 18) hx hb dX12_records_44 (by decide) ?_
      have hl := lv_sub hl [1, 2, 3, 0] rfl
      exact ih _ _ _ _ _ _ h G hl
def fr_records_12_b6  : Nat → MS → Int32 → Option (MS)
  | 0, _, _ => none
  | n + 1, S, l2 => elet (S.2.1 10 4) fun v2 => if v2 ≤ l2 then (some S) else (fr_records_12_b18 (fr_records_12_b6 n) 16384 S l2 0)
set_option maxHeartbeats 4000000 in
set_option maxRecDepth 100000 in
theorem tr_records_12_b6 {p : Program} {l : Launch} {e : Env} {s : State} {m : MethodId} {args : Array Value} {below : List Frame} {meth : Method} {c : Code} {Q : State → Prop} {D : va_G} {A : Nat → Prop} {H0 : Heap} {cI cJ cZ : ClassId} {ad : Nat → Nat} {S1 : MS} (E : mE p c cX12_records s m args (Cond.code yX12_records cX12_records 4 none :: wsM) D cI cJ cZ) (hA : ∀ q : Nat, H0.size ≤ q → A q) (hR : sR s) (hml : c.maxLocals = 4) (kr92 : ∀ (H : Heap) (locs : List Loc) (ls : Array Slot), mG D cI cJ cZ ad A H0 H locs S1 → W p l e { frames := 6, cells := 0, slots := 0, locals := 146 } s m args below meth c H locs 0 0 Q (F0 m 92 ls [])) : ∀ n : Nat, ∀ (S : MS) (H : Heap) (locs : List Loc) (ls : Array Slot) (l2 : Int32), fr_records_12_b6 n S l2 = some S1 → mG D cI cJ cZ ad A H0 H locs S → lv_has ls 4 [(0, .ref (ad 0)), (1, .ref (ad 12)), (2, .int l2)] → W p l e { frames := 6, cells := 0, slots := 0, locals := 146 } s m args below meth c H locs 0 0 Q (F0 m 6 ls []) := by
  have hx := E.1
  have hb := E.2.1
  have hts := E.2.2.1
  have hown := E.2.2.2.1
  have hK := E.2.2.2.2.1
  intro n
  induction n with
  | zero =>
    intro S H locs ls l2 h
    have h : (none : Option (MS)) = some S1 := h
    cases h
  | succ n ih =>
    intro S H locs ls l2 h G hl
    unfold fr_records_12_b6 at h
    refine lv_iload_n hx hb dX12_records_6 rfl (lv_at hl 2 rfl) ?_
    refine lv_aload_n hx hb dX12_records_7 rfl (lv_at hl 0 rfl) ?_
    refine m_get E G 10 (v := .ref (ad 10)) (by decide) (.tail _ qM_7) rfl dX12_records_8 rfl ?_
    refine lv_iconst (v := 4) hx hb dX12_records_11 (by decide) ?_
    refine m_iald E G 10 2 (n := 131) (k := 4) rfl rfl (by decide) (by decide) dX12_records_12 ?_
    refine lv_topi (fun v2 ev2 => ?_)
    have h := elet_at ev2 h
    clear ev2
    refine lv_icmp_ge (tgt := 92) hx hb dX12_records_13 (by decide) (fun c3 => ?_) (fun c3 => ?_)
    · have h := oif_pos c3 h
      rw [osome1 h] at G
      exact kr92 _ _ _ G
    · have h := oif_neg c3 h
      refine lv_iconst (v := 0) hx hb dX12_records_16 (by decide) ?_
      refine lv_istore_n (lv' := [(3, .int 0), (0, .ref (ad 0)), (1, .ref (ad 12)), (2, .int l2)]) hx hb dX12_records_17 rfl hl (by decide) rfl (fun ls hl => ?_)
      have hl := lv_sub hl [1, 2, 3, 0] rfl
      exact tr_records_12_b18 E hA hR hml kr92 ih _ _ _ _ _ _ _ h G hl
def fr_records_12 (S : MS)  : Option (MS) := elet (mf S 12 (upd (S.2.1 12) 0 0)) fun S2 => fr_records_12_b6 16384 S2 0
set_option maxHeartbeats 4000000 in
set_option maxRecDepth 100000 in
theorem tr_records_12 (l : Launch) (D : va_G) (cI cJ cZ : ClassId) (ad : Nat → Nat) (S : MS)  {S1 : MS} (h : fr_records_12 S = some S1) : mCv l yX12_records (Cond.code yX12_records cX12_records 4 none :: wsM) 6 146 D cI cJ cZ ad S [.ref (ad 12)] (fun S9 => S9 = S1) := by
  intro sz
  refine pro_in (cc := cX12_records) (maxL := 4) (ret := none) (by exact pn_RX12) rfl (by exact Nat.le_of_ble_eq_true rfl) (fun p e s m below meth c ls hx hb hr hts hown hlocks hml hv hl => ?_)
  obtain ⟨hsz, hP, hK, hD0, hR⟩ := hv
  subst hsz
  have hD := hD0.self (sz := s.heap.size)
  generalize hAe : va_A (MW cI cJ cZ ad S) s.heap.size = A at hD ⊢
  have hA : ∀ q : Nat, s.heap.size ≤ q → A q := fun q h => by rw [← hAe]; exact Or.inr h
  have G : mG D cI cJ cZ ad A s.heap s.heap [] S := ⟨hP, hD, va_S.rf⟩
  have E : mE p c cX12_records s m ([.ref (ad 0), .ref (ad 12)] : List Value).toArray (Cond.code yX12_records cX12_records 4 none :: wsM) D cI cJ cZ := ⟨hx, hb, hts, hown, hK, fun w h => .tail _ (iM_x h)⟩
  have hl : lv_has ls 4 [(0, .ref (ad 0)), (1, .ref (ad 12))] := hl
  unfold fr_records_12 at h
  refine lv_aload_n hx hb dX12_records_0 rfl (lv_at hl 1 rfl) ?_
  refine lv_iconst (v := 0) hx hb dX12_records_1 (by decide) ?_
  refine lv_iconst (v := 0) hx hb dX12_records_2 (by decide) ?_
  refine m_iast E G 12 4 (k := 0) (v := 0) rfl (fun _ => rfl) rfl (by decide) (by decide) dX12_records_3 (fun H locs G => ?_)
  obtain ⟨S2, eS2, h⟩ := elet_some h
  rw [← eS2] at G
  clear eS2
  refine lv_iconst (v := 0) hx hb dX12_records_4 (by decide) ?_
  refine lv_istore_n (lv' := [(2, .int 0), (0, .ref (ad 0)), (1, .ref (ad 12))]) hx hb dX12_records_5 rfl hl (by decide) rfl (fun ls hl => ?_)
  have hl := lv_sub hl [1, 2, 0] rfl
  exact tr_records_12_b6 E hA hR hml (fun H locs ls G => W.vret hx hb hr (fun t ht hW => ⟨⟨S1, rfl, rfl, ⟨by rw [ht]; exact G.1, va_K.moved hW.alike hK, G.2.1⟩⟩, G.2.2.F ht⟩) G.2.2.2.2 dX12_records_92) _ _ _ _ _ _ h G hl
def fr_load_b168 (k158 : MS → Int32 → Option (Int32 × MS)) : Nat → MS → Int32 → Int32 → Option (Int32 × MS)
  | 0, _, _, _ => none
  | n + 1, S, l2, l3 => elet (S.2.1 10 4) fun v2 => if v2 ≤ l3 then (elet (l2 + Int32.ofInt (1)) fun v4 => k158 S v4) else (elet (12 * l2) fun v5 => elet (v5 + l3) fun v6 => obind2 (fr_centre S l2 0) fun r10 S7 => obind2 (fr_centre S7 l2 1) fun r14 S11 => obind2 (fr_delayFrom S11 l3 r10 r14) fun r18 S15 => oif (inb v6 1728 = true) <| elet (mf S15 17 (upd (S15.2.1 17) v6.toNatClampNeg r18)) fun S20 => elet (l3 + Int32.ofInt (1)) fun v21 => fr_load_b168 k158 n S20 l2 v21)
set_option maxHeartbeats 4000000 in
set_option maxRecDepth 100000 in
theorem tr_load_b168 {p : Program} {l : Launch} {e : Env} {s : State} {m : MethodId} {args : Array Value} {below : List Frame} {meth : Method} {c : Code} {Q : State → Prop} {D : va_G} {A : Nat → Prop} {cI cJ cZ : ClassId} {ad : Nat → Nat} {r1 : Int32} {S1 : MS} (E : mE p c cX12_load s m args (Cond.code yX12_load cX12_load 4 (some .int) :: wsM) D cI cJ cZ) (hA : ∀ q : Nat, s.heap.size ≤ q → A q) (hR : sR s) (hml : c.maxLocals = 4) {h0 : Nat} (hA0 : ∀ a : Nat, A a → h0 ≤ a) (hT : sAll h0 s) (kr22 : ∀ (H : Heap) (locs : List Loc) (ls : Array Slot), mG D cI cJ cZ ad A s.heap H locs S1 → W p l e { frames := 11, cells := 0, slots := 0, locals := 216 } s m args below meth c H locs 0 0 Q (F0 m 22 ls [.int r1])) (kr64 : ∀ (H : Heap) (locs : List Loc) (ls : Array Slot), mG D cI cJ cZ ad A s.heap H locs S1 → W p l e { frames := 11, cells := 0, slots := 0, locals := 216 } s m args below meth c H locs 0 0 Q (F0 m 64 ls [.int r1])) (kr254 : ∀ (H : Heap) (locs : List Loc) (ls : Array Slot), mG D cI cJ cZ ad A s.heap H locs S1 → W p l e { frames := 11, cells := 0, slots := 0, locals := 216 } s m args below meth c H locs 0 0 Q (F0 m 254 ls [.int r1])) {k158 : MS → Int32 → Option (Int32 × MS)} (hk158 : ∀ (S : MS) (H : Heap) (locs : List Loc) (ls : Array Slot) (l2 : Int32), k158 S l2 = some (r1, S1) → mG D cI cJ cZ ad A s.heap H locs S → lv_has ls 4 [(0, .ref (ad 0)), (2, .int l2)] → W p l e { frames := 11, cells := 0, slots := 0, locals := 216 } s m args below meth c H locs 0 0 Q (F0 m 158 ls [])) : ∀ n : Nat, ∀ (S : MS) (H : Heap) (locs : List Loc) (ls : Array Slot) (l2 : Int32) (l3 : Int32), fr_load_b168 k158 n S l2 l3 = some (r1, S1) → mG D cI cJ cZ ad A s.heap H locs S → lv_has ls 4 [(0, .ref (ad 0)), (2, .int l2), (3, .int l3)] → W p l e { frames := 11, cells := 0, slots := 0, locals := 216 } s m args below meth c H locs 0 0 Q (F0 m 168 ls []) := by
  have hx := E.1
  have hb := E.2.1
  have hts := E.2.2.1
  have hown := E.2.2.2.1
  have hK := E.2.2.2.2.1
  intro n
  induction n with
  | zero =>
    intro S H locs ls l2 l3 h
    have h : (none : Option (Int32 × MS)) = some (r1, S1) := h
    cases h
  | succ n ih =>
    intro S H locs ls l2 l3 h G hl
    unfold fr_load_b168 at h
    refine lv_iload_n hx hb dX12_load_168 rfl (lv_at hl 2 rfl) ?_
    refine lv_aload_n hx hb dX12_load_169 rfl (lv_at hl 0 rfl) ?_
    refine m_get E G 10 (v := .ref (ad 10)) (by decide) (.tail _ qM_7) rfl dX12_load_170 rfl ?_
    refine lv_iconst (v := 4) hx hb dX12_load_173 (by decide) ?_
    refine m_iald E G 10 2 (n := 131) (k := 4) rfl rfl (by decide) (by decide) dX12_load_174 ?_
    refine lv_topi (fun v2 ev2 => ?_)
    have h := elet_at ev2 h
    clear ev2
    refine lv_icmp_ge (tgt := 212) hx hb dX12_load_175 (by decide) (fun c3 => ?_) (fun c3 => ?_)
    · have h := oif_pos c3 h
      obtain ⟨v4, ev4, h⟩ := elet_some h
      refine lv_iinc (v := v4) (lv' := [(2, .int v4), (0, .ref (ad 0)), (3, .int l3)]) hx hb dX12_load_212 hl (k := 1) rfl ev4.symm (by decide) rfl (fun ls hl => ?_)
      refine lv_goto (tgt := 158) hx hb dX12_load_215 (by decide) ?_
      have hl := lv_sub hl [1, 0] rfl
      exact hk158 _ _ _ _ _ h G hl
    · have h := oif_neg c3 h
      refine lv_aload_n hx hb dX12_load_178 rfl (lv_at hl 0 rfl) ?_
      refine m_get E G 17 (v := .ref (ad 17)) (by decide) (.tail _ qM_14) rfl dX12_load_179 rfl ?_
      refine lv_bipush (v := 12) hx hb dX12_load_182 (by decide) ?_
      refine lv_iload_n hx hb dX12_load_184 rfl (lv_at hl 1 rfl) ?_
      refine lv_imul hx hb dX12_load_185 ?_
      refine lv_topi (fun v5 ev5 => ?_)
      have h := elet_at ev5 h
      clear ev5
      refine lv_iload_n hx hb dX12_load_186 rfl (lv_at hl 2 rfl) ?_
      refine lv_iadd hx hb dX12_load_187 ?_
      refine lv_topi (fun v6 ev6 => ?_)
      have h := elet_at ev6 h
      clear ev6
      refine lv_aload_n hx hb dX12_load_188 rfl (lv_at hl 0 rfl) ?_
      refine lv_iload_n hx hb dX12_load_189 rfl (lv_at hl 2 rfl) ?_
      refine lv_aload_n hx hb dX12_load_190 rfl (lv_at hl 0 rfl) ?_
      refine lv_iload_n hx hb dX12_load_191 rfl (lv_at hl 1 rfl) ?_
      refine lv_iconst (v := 0) hx hb dX12_load_192 (by decide) ?_
      obtain ⟨r10, S7, eS7, h⟩ := obind2_some h
      refine m_calli (As := [.int l2, .int 0]) (rest := [.int l3, .ref (ad 0), .int v6, .ref (ad 17)]) E G hA hR hml (tr_centre l D cI cJ cZ ad S l2 0 eS7) (cwV 2 hts (gmV qM_208 qM_209 qM_210 qM_35 qM_211) rfl rfl rfl (by decide +kernel) ⟨Nat.le_of_ble_eq_true rfl, Nat.le_of_ble_eq_true rfl⟩) rfl hl.1 rfl (lv_room (Nat.le_of_ble_eq_true rfl)) dX12_load_193 ⟨Nat.zero_le _, Nat.zero_le _⟩ (fun q8 S9 H locs hq G => ?_)
      obtain ⟨hq1, hq2⟩ := hq
      rw [hq2] at G
      refine lv_to hq1 ?_
      clear hq1 hq2 eS7
      refine lv_aload_n hx hb dX12_load_196 rfl (lv_at hl 0 rfl) ?_
      refine lv_iload_n hx hb dX12_load_197 rfl (lv_at hl 1 rfl) ?_
      refine lv_iconst (v := 1) hx hb dX12_load_198 (by decide) ?_
      obtain ⟨r14, S11, eS11, h⟩ := obind2_some h
      refine m_calli (As := [.int l2, .int 1]) (rest := [.int r10, .int l3, .ref (ad 0), .int v6, .ref (ad 17)]) E G hA hR hml (tr_centre l D cI cJ cZ ad S7 l2 1 eS11) (cwV 2 hts (gmV qM_208 qM_209 qM_210 qM_35 qM_211) rfl rfl rfl (by decide +kernel) ⟨Nat.le_of_ble_eq_true rfl, Nat.le_of_ble_eq_true rfl⟩) rfl hl.1 rfl (lv_room (Nat.le_of_ble_eq_true rfl)) dX12_load_199 ⟨Nat.zero_le _, Nat.zero_le _⟩ (fun q12 S13 H locs hq G => ?_)
      obtain ⟨hq1, hq2⟩ := hq
      rw [hq2] at G
      refine lv_to hq1 ?_
      clear hq1 hq2 eS11
      obtain ⟨r18, S15, eS15, h⟩ := obind2_some h
      refine m_calli (As := [.int l3, .int r10, .int r14]) (rest := [.int v6, .ref (ad 17)]) E G hA hR hml (tr_delayFrom l D cI cJ cZ ad S11 l3 r10 r14 eS15) (cwV 3 hts (gmV qM_212 qM_213 qM_214 qM_35 qM_215) rfl rfl rfl (by decide +kernel) ⟨Nat.le_of_ble_eq_true rfl, Nat.le_of_ble_eq_true rfl⟩) rfl hl.1 rfl (lv_room (Nat.le_of_ble_eq_true rfl)) dX12_load_202 ⟨Nat.zero_le _, Nat.zero_le _⟩ (fun q16 S17 H locs hq G => ?_)
      obtain ⟨hq1, hq2⟩ := hq
      rw [hq2] at G
      refine lv_to hq1 ?_
      clear hq1 hq2 eS15
      obtain ⟨g19, h⟩ := oif_some h
      refine m_iast E G 17 9 (k := v6.toNatClampNeg) (v := r18) rfl (fun _ => rfl) (inb_k g19).1 (inb_k g19).2 (by decide) dX12_load_205 (fun H locs G => ?_)
      obtain ⟨S20, eS20, h⟩ := elet_some h
      rw [← eS20] at G
      clear eS20
      obtain ⟨v21, ev21, h⟩ := elet_some h
      refine lv_iinc (v := v21) (lv' := [(3, .int v21), (0, .ref (ad 0)), (2, .int l2)]) hx hb dX12_load_206 hl (k := 2) rfl ev21.symm (by decide) rfl (fun ls hl => ?_)
      refine lv_goto (tgt := 168) hx hb dX12_load_209 (by decide) ?_
      have hl := lv_sub hl [1, 2, 0] rfl
      exact ih _ _ _ _ _ _ h G hl
def fr_load_b158  : Nat → MS → Int32 → Option (Int32 × MS)
  | 0, _, _ => none
  | n + 1, S, l2 => obind2 (fr_cellCount S) fun r5 S2 => if r5 ≤ l2 then (obind (fr_records_12 S2) fun S7 => elet (mi S7 20 1) fun S10 => elet (mf S10 18 (upd (S10.2.1 18) 0 0)) fun S11 => elet (mf S11 18 (upd (S11.2.1 18) 1 0)) fun S12 => elet (mi S12 19 0) fun S13 => obind2 (fr_cellCount S13) fun r17 S14 => some (r17, S14)) else (fr_load_b168 (fr_load_b158 n) 16384 S2 l2 0)
set_option maxHeartbeats 4000000 in
set_option maxRecDepth 100000 in
theorem tr_load_b158 {p : Program} {l : Launch} {e : Env} {s : State} {m : MethodId} {args : Array Value} {below : List Frame} {meth : Method} {c : Code} {Q : State → Prop} {D : va_G} {A : Nat → Prop} {cI cJ cZ : ClassId} {ad : Nat → Nat} {r1 : Int32} {S1 : MS} (E : mE p c cX12_load s m args (Cond.code yX12_load cX12_load 4 (some .int) :: wsM) D cI cJ cZ) (hA : ∀ q : Nat, s.heap.size ≤ q → A q) (hR : sR s) (hml : c.maxLocals = 4) {h0 : Nat} (hA0 : ∀ a : Nat, A a → h0 ≤ a) (hT : sAll h0 s) (kr22 : ∀ (H : Heap) (locs : List Loc) (ls : Array Slot), mG D cI cJ cZ ad A s.heap H locs S1 → W p l e { frames := 11, cells := 0, slots := 0, locals := 216 } s m args below meth c H locs 0 0 Q (F0 m 22 ls [.int r1])) (kr64 : ∀ (H : Heap) (locs : List Loc) (ls : Array Slot), mG D cI cJ cZ ad A s.heap H locs S1 → W p l e { frames := 11, cells := 0, slots := 0, locals := 216 } s m args below meth c H locs 0 0 Q (F0 m 64 ls [.int r1])) (kr254 : ∀ (H : Heap) (locs : List Loc) (ls : Array Slot), mG D cI cJ cZ ad A s.heap H locs S1 → W p l e { frames := 11, cells := 0, slots := 0, locals := 216 } s m args below meth c H locs 0 0 Q (F0 m 254 ls [.int r1])) : ∀ n : Nat, ∀ (S : MS) (H : Heap) (locs : List Loc) (ls : Array Slot) (l2 : Int32), fr_load_b158 n S l2 = some (r1, S1) → mG D cI cJ cZ ad A s.heap H locs S → lv_has ls 4 [(0, .ref (ad 0)), (2, .int l2)] → W p l e { frames := 11, cells := 0, slots := 0, locals := 216 } s m args below meth c H locs 0 0 Q (F0 m 158 ls []) := by
  have hx := E.1
  have hb := E.2.1
  have hts := E.2.2.1
  have hown := E.2.2.2.1
  have hK := E.2.2.2.2.1
  intro n
  induction n with
  | zero =>
    intro S H locs ls l2 h
    have h : (none : Option (Int32 × MS)) = some (r1, S1) := h
    cases h
  | succ n ih =>
    intro S H locs ls l2 h G hl
    unfold fr_load_b158 at h
    refine lv_iload_n hx hb dX12_load_158 rfl (lv_at hl 1 rfl) ?_
    refine lv_aload_n hx hb dX12_load_159 rfl (lv_at hl 0 rfl) ?_
    obtain ⟨r5, S2, eS2, h⟩ := obind2_some h
    refine m_calli (As := []) (rest := [.int l2]) E G hA hR hml (tr_cellCount l D cI cJ cZ ad S eS2) (cwV 0 hts (gmV qM_204 qM_205 qM_206 qM_35 qM_207) rfl rfl rfl (by decide +kernel) ⟨Nat.le_of_ble_eq_true rfl, Nat.le_of_ble_eq_true rfl⟩) rfl hl.1 rfl (lv_room (Nat.le_of_ble_eq_true rfl)) dX12_load_160 ⟨Nat.zero_le _, Nat.zero_le _⟩ (fun q3 S4 H locs hq G => ?_)
    obtain ⟨hq1, hq2⟩ := hq
    rw [hq2] at G
    refine lv_to hq1 ?_
    clear hq1 hq2 eS2
    refine lv_icmp_ge (tgt := 218) hx hb dX12_load_163 (by decide) (fun c6 => ?_) (fun c6 => ?_)
    · have h := oif_pos c6 h
      refine lv_aload_n hx hb dX12_load_218 rfl (lv_at hl 0 rfl) ?_
      refine lv_aload_n hx hb dX12_load_219 rfl (lv_at hl 0 rfl) ?_
      refine m_get E G 12 (v := .ref (ad 12)) (by decide) (.tail _ qM_9) rfl dX12_load_220 rfl ?_
      obtain ⟨S7, eS7, h⟩ := obind_some h
      refine m_callv (As := [.ref (ad 12)]) (rest := []) E G hA hR hml (tr_records_12 l D cI cJ cZ ad S2 eS7) (cwV 1 hts (gmV qM_220 qM_221 qM_222 qM_35 qM_223) rfl rfl rfl (by decide +kernel) ⟨Nat.le_of_ble_eq_true rfl, Nat.le_of_ble_eq_true rfl⟩) rfl hl.1 rfl (lv_room (Nat.le_of_ble_eq_true rfl)) dX12_load_223 ⟨Nat.zero_le _, Nat.zero_le _⟩ (fun S9 H locs hq G => ?_)
      rw [hq] at G
      clear hq eS7
      refine lv_aload_n hx hb dX12_load_226 rfl (lv_at hl 0 rfl) ?_
      refine lv_iconst (v := 1) hx hb dX12_load_227 (by decide) ?_
      refine m_put E G 20 (by decide) (.tail _ qM_193) (mw_i20 _ _ _ _ _ 1) dX12_load_228 ⟨rfl, rfl, rfl⟩ rfl rfl (fun H locs G => ?_)
      obtain ⟨S10, eS10, h⟩ := elet_some h
      rw [← eS10] at G
      clear eS10
      refine lv_aload_n hx hb dX12_load_231 rfl (lv_at hl 0 rfl) ?_
      refine m_get E G 18 (v := .ref (ad 18)) (by decide) (.tail _ qM_16) rfl dX12_load_232 rfl ?_
      refine lv_iconst (v := 0) hx hb dX12_load_235 (by decide) ?_
      refine lv_iconst (v := 0) hx hb dX12_load_236 (by decide) ?_
      refine m_zast E G 18 10 (k := 0) (v := 0) rfl (fun _ => rfl) rfl (by decide) (by decide) rfl dX12_load_237 (fun H locs G => ?_)
      obtain ⟨S11, eS11, h⟩ := elet_some h
      rw [← eS11] at G
      clear eS11
      refine lv_aload_n hx hb dX12_load_238 rfl (lv_at hl 0 rfl) ?_
      refine m_get E G 18 (v := .ref (ad 18)) (by decide) (.tail _ qM_16) rfl dX12_load_239 rfl ?_
      refine lv_iconst (v := 1) hx hb dX12_load_242 (by decide) ?_
      refine lv_iconst (v := 0) hx hb dX12_load_243 (by decide) ?_
      refine m_zast E G 18 10 (k := 1) (v := 0) rfl (fun _ => rfl) rfl (by decide) (by decide) rfl dX12_load_244 (fun H locs G => ?_)
      obtain ⟨S12, eS12, h⟩ := elet_some h
      rw [← eS12] at G
      clear eS12
      refine lv_aload_n hx hb dX12_load_245 rfl (lv_at hl 0 rfl) ?_
      refine lv_iconst (v := 0) hx hb dX12_load_246 (by decide) ?_
      refine m_put E G 19 (by decide) (.tail _ qM_194) (mw_i19 _ _ _ _ _ 0) dX12_load_247 ⟨rfl, rfl, rfl⟩ rfl rfl (fun H locs G => ?_)
      obtain ⟨S13, eS13, h⟩ := elet_some h
      rw [← eS13] at G
      clear eS13
      refine lv_aload_n hx hb dX12_load_250 rfl (lv_at hl 0 rfl) ?_
      obtain ⟨r17, S14, eS14, h⟩ := obind2_some h
      refine m_calli (As := []) (rest := []) E G hA hR hml (tr_cellCount l D cI cJ cZ ad S13 eS14) (cwV 0 hts (gmV qM_204 qM_205 qM_206 qM_35 qM_207) rfl rfl rfl (by decide +kernel) ⟨Nat.le_of_ble_eq_true rfl, Nat.le_of_ble_eq_true rfl⟩) rfl hl.1 rfl (lv_room (Nat.le_of_ble_eq_true rfl)) dX12_load_251 ⟨Nat.zero_le _, Nat.zero_le _⟩ (fun q15 S16 H locs hq G => ?_)
      obtain ⟨hq1, hq2⟩ := hq
      rw [hq2] at G
      refine lv_to hq1 ?_
      clear hq1 hq2 eS14
      rw [(osome2 h).2] at G
      refine lv_to (osome2 h).1 ?_
      exact kr254 _ _ _ G
    · have h := oif_neg c6 h
      refine lv_iconst (v := 0) hx hb dX12_load_166 (by decide) ?_
      refine lv_istore_n (lv' := [(3, .int 0), (0, .ref (ad 0)), (2, .int l2)]) hx hb dX12_load_167 rfl hl (by decide) rfl (fun ls hl => ?_)
      have hl := lv_sub hl [1, 2, 0] rfl
      exact tr_load_b168 E hA hR hml hA0 hT kr22 kr64 kr254 ih _ _ _ _ _ _ _ h G hl
def fr_load_b149 (k107 : MS → Int32 → Option (Int32 × MS)) (S : MS) (s0 : Int32) (s1 : Int32) (l2 : Int32) : Option (Int32 × MS) := oif (inb s1 2455 = true) <| elet (mf S 12 (upd (S.2.1 12) s1.toNatClampNeg s0)) fun S3 => elet (l2 + Int32.ofInt (1)) fun v4 => k107 S3 v4
set_option maxHeartbeats 4000000 in
set_option maxRecDepth 100000 in
theorem tr_load_b149 {p : Program} {l : Launch} {e : Env} {s : State} {m : MethodId} {args : Array Value} {below : List Frame} {meth : Method} {c : Code} {Q : State → Prop} {D : va_G} {A : Nat → Prop} {cI cJ cZ : ClassId} {ad : Nat → Nat} {r1 : Int32} {S1 : MS} (E : mE p c cX12_load s m args (Cond.code yX12_load cX12_load 4 (some .int) :: wsM) D cI cJ cZ) (hA : ∀ q : Nat, s.heap.size ≤ q → A q) (hR : sR s) (hml : c.maxLocals = 4) {h0 : Nat} (hA0 : ∀ a : Nat, A a → h0 ≤ a) (hT : sAll h0 s) (kr22 : ∀ (H : Heap) (locs : List Loc) (ls : Array Slot), mG D cI cJ cZ ad A s.heap H locs S1 → W p l e { frames := 11, cells := 0, slots := 0, locals := 216 } s m args below meth c H locs 0 0 Q (F0 m 22 ls [.int r1])) (kr64 : ∀ (H : Heap) (locs : List Loc) (ls : Array Slot), mG D cI cJ cZ ad A s.heap H locs S1 → W p l e { frames := 11, cells := 0, slots := 0, locals := 216 } s m args below meth c H locs 0 0 Q (F0 m 64 ls [.int r1])) (kr254 : ∀ (H : Heap) (locs : List Loc) (ls : Array Slot), mG D cI cJ cZ ad A s.heap H locs S1 → W p l e { frames := 11, cells := 0, slots := 0, locals := 216 } s m args below meth c H locs 0 0 Q (F0 m 254 ls [.int r1])) {k107 : MS → Int32 → Option (Int32 × MS)} (hk107 : ∀ (S : MS) (H : Heap) (locs : List Loc) (ls : Array Slot) (l2 : Int32), k107 S l2 = some (r1, S1) → mG D cI cJ cZ ad A s.heap H locs S → lv_has ls 4 [(0, .ref (ad 0)), (2, .int l2)] → W p l e { frames := 11, cells := 0, slots := 0, locals := 216 } s m args below meth c H locs 0 0 Q (F0 m 107 ls [])) : ∀ (S : MS) (H : Heap) (locs : List Loc) (ls : Array Slot) (s0 : Int32) (s1 : Int32) (l2 : Int32), fr_load_b149 k107 S s0 s1 l2 = some (r1, S1) → mG D cI cJ cZ ad A s.heap H locs S → lv_has ls 4 [(0, .ref (ad 0)), (2, .int l2)] → W p l e { frames := 11, cells := 0, slots := 0, locals := 216 } s m args below meth c H locs 0 0 Q (F0 m 149 ls [.int s0, .int s1, .ref (ad 12)]) := by
  have hx := E.1
  have hb := E.2.1
  have hts := E.2.2.1
  have hown := E.2.2.2.1
  have hK := E.2.2.2.2.1
  intro S H locs ls s0 s1 l2 h G hl
  unfold fr_load_b149 at h
  obtain ⟨g2, h⟩ := oif_some h
  refine m_iast E G 12 4 (k := s1.toNatClampNeg) (v := s0) rfl (fun _ => rfl) (inb_k g2).1 (inb_k g2).2 (by decide) dX12_load_149 (fun H locs G => ?_)
  obtain ⟨S3, eS3, h⟩ := elet_some h
  rw [← eS3] at G
  clear eS3
  obtain ⟨v4, ev4, h⟩ := elet_some h
  refine lv_iinc (v := v4) (lv' := [(2, .int v4), (0, .ref (ad 0))]) hx hb dX12_load_150 hl (k := 1) rfl ev4.symm (by decide) rfl (fun ls hl => ?_)
  refine lv_goto (tgt := 107) hx hb dX12_load_153 (by decide) ?_
  have hl := lv_sub hl [1, 0] rfl
  exact hk107 _ _ _ _ _ h G hl
def fr_load_b107  : Nat → MS → Int32 → Option (Int32 × MS)
  | 0, _, _ => none
  | n + 1, S, l2 => elet (S.2.1 10 4) fun v2 => if v2 ≤ l2 then (fr_load_b158 16384 S 0) else (elet (13 + l2) fun v4 => elet (S.2.1 10 118) fun v5 => if v5 ≤ l2 then (fr_load_b149 (fr_load_b107 n) S 1 v4 l2) else (elet (119 + l2) fun v7 => oif (inb v7 131 = true) <| elet (S.2.1 10 v7.toNatClampNeg) fun v9 => fr_load_b149 (fr_load_b107 n) S v9 v4 l2))
set_option maxHeartbeats 4000000 in
set_option maxRecDepth 100000 in
theorem tr_load_b107 {p : Program} {l : Launch} {e : Env} {s : State} {m : MethodId} {args : Array Value} {below : List Frame} {meth : Method} {c : Code} {Q : State → Prop} {D : va_G} {A : Nat → Prop} {cI cJ cZ : ClassId} {ad : Nat → Nat} {r1 : Int32} {S1 : MS} (E : mE p c cX12_load s m args (Cond.code yX12_load cX12_load 4 (some .int) :: wsM) D cI cJ cZ) (hA : ∀ q : Nat, s.heap.size ≤ q → A q) (hR : sR s) (hml : c.maxLocals = 4) {h0 : Nat} (hA0 : ∀ a : Nat, A a → h0 ≤ a) (hT : sAll h0 s) (kr22 : ∀ (H : Heap) (locs : List Loc) (ls : Array Slot), mG D cI cJ cZ ad A s.heap H locs S1 → W p l e { frames := 11, cells := 0, slots := 0, locals := 216 } s m args below meth c H locs 0 0 Q (F0 m 22 ls [.int r1])) (kr64 : ∀ (H : Heap) (locs : List Loc) (ls : Array Slot), mG D cI cJ cZ ad A s.heap H locs S1 → W p l e { frames := 11, cells := 0, slots := 0, locals := 216 } s m args below meth c H locs 0 0 Q (F0 m 64 ls [.int r1])) (kr254 : ∀ (H : Heap) (locs : List Loc) (ls : Array Slot), mG D cI cJ cZ ad A s.heap H locs S1 → W p l e { frames := 11, cells := 0, slots := 0, locals := 216 } s m args below meth c H locs 0 0 Q (F0 m 254 ls [.int r1])) : ∀ n : Nat, ∀ (S : MS) (H : Heap) (locs : List Loc) (ls : Array Slot) (l2 : Int32), fr_load_b107 n S l2 = some (r1, S1) → mG D cI cJ cZ ad A s.heap H locs S → lv_has ls 4 [(0, .ref (ad 0)), (2, .int l2)] → W p l e { frames := 11, cells := 0, slots := 0, locals := 216 } s m args below meth c H locs 0 0 Q (F0 m 107 ls []) := by
  have hx := E.1
  have hb := E.2.1
  have hts := E.2.2.1
  have hown := E.2.2.2.1
  have hK := E.2.2.2.2.1
  intro n
  induction n with
  | zero =>
    intro S H locs ls l2 h
    have h : (none : Option (Int32 × MS)) = some (r1, S1) := h
    cases h
  | succ n ih =>
    intro S H locs ls l2 h G hl
    unfold fr_load_b107 at h
    refine lv_iload_n hx hb dX12_load_107 rfl (lv_at hl 1 rfl) ?_
    refine lv_aload_n hx hb dX12_load_108 rfl (lv_at hl 0 rfl) ?_
    refine m_get E G 10 (v := .ref (ad 10)) (by decide) (.tail _ qM_7) rfl dX12_load_109 rfl ?_
    refine lv_iconst (v := 4) hx hb dX12_load_112 (by decide) ?_
    refine m_iald E G 10 2 (n := 131) (k := 4) rfl rfl (by decide) (by decide) dX12_load_113 ?_
    refine lv_topi (fun v2 ev2 => ?_)
    have h := elet_at ev2 h
    clear ev2
    refine lv_icmp_ge (tgt := 156) hx hb dX12_load_114 (by decide) (fun c3 => ?_) (fun c3 => ?_)
    · have h := oif_pos c3 h
      refine lv_iconst (v := 0) hx hb dX12_load_156 (by decide) ?_
      refine lv_istore_n (lv' := [(2, .int 0), (0, .ref (ad 0))]) hx hb dX12_load_157 rfl hl (by decide) rfl (fun ls hl => ?_)
      have hl := lv_sub hl [1, 0] rfl
      exact tr_load_b158 E hA hR hml hA0 hT kr22 kr64 kr254 _ _ _ _ _ _ h G hl
    · have h := oif_neg c3 h
      refine lv_aload_n hx hb dX12_load_117 rfl (lv_at hl 0 rfl) ?_
      refine m_get E G 12 (v := .ref (ad 12)) (by decide) (.tail _ qM_9) rfl dX12_load_118 rfl ?_
      refine lv_bipush (v := 13) hx hb dX12_load_121 (by decide) ?_
      refine lv_iload_n hx hb dX12_load_123 rfl (lv_at hl 1 rfl) ?_
      refine lv_iadd hx hb dX12_load_124 ?_
      refine lv_topi (fun v4 ev4 => ?_)
      have h := elet_at ev4 h
      clear ev4
      refine lv_iload_n hx hb dX12_load_125 rfl (lv_at hl 1 rfl) ?_
      refine lv_aload_n hx hb dX12_load_126 rfl (lv_at hl 0 rfl) ?_
      refine m_get E G 10 (v := .ref (ad 10)) (by decide) (.tail _ qM_7) rfl dX12_load_127 rfl ?_
      refine lv_bipush (v := 118) hx hb dX12_load_130 (by decide) ?_
      refine m_iald E G 10 2 (n := 131) (k := 118) rfl rfl (by decide) (by decide) dX12_load_132 ?_
      refine lv_topi (fun v5 ev5 => ?_)
      have h := elet_at ev5 h
      clear ev5
      refine lv_icmp_ge (tgt := 148) hx hb dX12_load_133 (by decide) (fun c6 => ?_) (fun c6 => ?_)
      · have h := oif_pos c6 h
        refine lv_iconst (v := 1) hx hb dX12_load_148 (by decide) ?_
        have hl := lv_sub hl [0, 1] rfl
        exact tr_load_b149 E hA hR hml hA0 hT kr22 kr64 kr254 ih _ _ _ _ _ _ _ h G hl
      · have h := oif_neg c6 h
        refine lv_aload_n hx hb dX12_load_136 rfl (lv_at hl 0 rfl) ?_
        refine m_get E G 10 (v := .ref (ad 10)) (by decide) (.tail _ qM_7) rfl dX12_load_137 rfl ?_
        refine lv_bipush (v := 119) hx hb dX12_load_140 (by decide) ?_
        refine lv_iload_n hx hb dX12_load_142 rfl (lv_at hl 1 rfl) ?_
        refine lv_iadd hx hb dX12_load_143 ?_
        refine lv_topi (fun v7 ev7 => ?_)
        have h := elet_at ev7 h
        clear ev7
        obtain ⟨g8, h⟩ := oif_some h
        refine m_iald E G 10 2 (n := 131) (k := v7.toNatClampNeg) rfl (inb_k g8).1 (inb_k g8).2 (by decide) dX12_load_144 ?_
        refine lv_topi (fun v9 ev9 => ?_)
        have h := elet_at ev9 h
        clear ev9
        refine lv_goto (tgt := 149) hx hb dX12_load_145 (by decide) ?_
        have hl := lv_sub hl [0, 1] rfl
        exact tr_load_b149 E hA hR hml hA0 hT kr22 kr64 kr254 ih _ _ _ _ _ _ _ h G hl
def fr_load_b67  : Nat → MS → Int32 → Option (Int32 × MS)
  | 0, _, _ => none
  | n + 1, S, l2 => if 131 ≤ l2 then (obind (fr_copy_13_12 S 0 0) fun S3 => fr_load_b107 16384 S3 0) else (oif (inb l2 131 = true) <| elet (S.2.1 11 l2.toNatClampNeg) fun v7 => oif (inb l2 131 = true) <| elet (mf S 10 (upd (S.2.1 10) l2.toNatClampNeg v7)) fun S9 => elet (l2 + Int32.ofInt (1)) fun v10 => fr_load_b67 n S9 v10)
set_option maxHeartbeats 4000000 in
set_option maxRecDepth 100000 in
theorem tr_load_b67 {p : Program} {l : Launch} {e : Env} {s : State} {m : MethodId} {args : Array Value} {below : List Frame} {meth : Method} {c : Code} {Q : State → Prop} {D : va_G} {A : Nat → Prop} {cI cJ cZ : ClassId} {ad : Nat → Nat} {r1 : Int32} {S1 : MS} (E : mE p c cX12_load s m args (Cond.code yX12_load cX12_load 4 (some .int) :: wsM) D cI cJ cZ) (hA : ∀ q : Nat, s.heap.size ≤ q → A q) (hR : sR s) (hml : c.maxLocals = 4) {h0 : Nat} (hA0 : ∀ a : Nat, A a → h0 ≤ a) (hT : sAll h0 s) (kr22 : ∀ (H : Heap) (locs : List Loc) (ls : Array Slot), mG D cI cJ cZ ad A s.heap H locs S1 → W p l e { frames := 11, cells := 0, slots := 0, locals := 216 } s m args below meth c H locs 0 0 Q (F0 m 22 ls [.int r1])) (kr64 : ∀ (H : Heap) (locs : List Loc) (ls : Array Slot), mG D cI cJ cZ ad A s.heap H locs S1 → W p l e { frames := 11, cells := 0, slots := 0, locals := 216 } s m args below meth c H locs 0 0 Q (F0 m 64 ls [.int r1])) (kr254 : ∀ (H : Heap) (locs : List Loc) (ls : Array Slot), mG D cI cJ cZ ad A s.heap H locs S1 → W p l e { frames := 11, cells := 0, slots := 0, locals := 216 } s m args below meth c H locs 0 0 Q (F0 m 254 ls [.int r1])) : ∀ n : Nat, ∀ (S : MS) (H : Heap) (locs : List Loc) (ls : Array Slot) (l2 : Int32), fr_load_b67 n S l2 = some (r1, S1) → mG D cI cJ cZ ad A s.heap H locs S → lv_has ls 4 [(0, .ref (ad 0)), (2, .int l2)] → W p l e { frames := 11, cells := 0, slots := 0, locals := 216 } s m args below meth c H locs 0 0 Q (F0 m 67 ls []) := by
  have hx := E.1
  have hb := E.2.1
  have hts := E.2.2.1
  have hown := E.2.2.2.1
  have hK := E.2.2.2.2.1
  intro n
  induction n with
  | zero =>
    intro S H locs ls l2 h
    have h : (none : Option (Int32 × MS)) = some (r1, S1) := h
    cases h
  | succ n ih =>
    intro S H locs ls l2 h G hl
    unfold fr_load_b67 at h
    refine lv_iload_n hx hb dX12_load_67 rfl (lv_at hl 1 rfl) ?_
    refine lv_sipush (v := 131) hx hb dX12_load_68 (by decide) ?_
    refine lv_icmp_ge (tgt := 92) hx hb dX12_load_71 (by decide) (fun c2 => ?_) (fun c2 => ?_)
    · have h := oif_pos c2 h
      refine lv_aload_n hx hb dX12_load_92 rfl (lv_at hl 0 rfl) ?_
      refine m_get E G 13 (v := .ref (ad 13)) (by decide) (.tail _ qM_10) rfl dX12_load_93 rfl ?_
      refine lv_iconst (v := 0) hx hb dX12_load_96 (by decide) ?_
      refine lv_aload_n hx hb dX12_load_97 rfl (lv_at hl 0 rfl) ?_
      refine m_get E G 12 (v := .ref (ad 12)) (by decide) (.tail _ qM_9) rfl dX12_load_98 rfl ?_
      refine lv_iconst (v := 0) hx hb dX12_load_101 (by decide) ?_
      obtain ⟨S3, eS3, h⟩ := obind_some h
      refine m_calls (As := [.ref (ad 13), .int 0, .ref (ad 12), .int 0]) (rest := []) E G hA hR hml (tr_copy_13_12 l D cI cJ cZ ad S 0 0 eS3) (cwS 4 hts (gmS qM_201 qM_202 qM_35 qM_203) rfl rfl rfl (by decide +kernel) ⟨Nat.le_of_ble_eq_true rfl, Nat.le_of_ble_eq_true rfl⟩) rfl hl.1 rfl (lv_room (Nat.le_of_ble_eq_true rfl)) dX12_load_102 ⟨Nat.zero_le _, Nat.zero_le _⟩ (fun S5 H locs hq G => ?_)
      rw [hq] at G
      clear hq eS3
      refine lv_iconst (v := 0) hx hb dX12_load_105 (by decide) ?_
      refine lv_istore_n (lv' := [(2, .int 0), (0, .ref (ad 0))]) hx hb dX12_load_106 rfl hl (by decide) rfl (fun ls hl => ?_)
      have hl := lv_sub hl [1, 0] rfl
      exact tr_load_b107 E hA hR hml hA0 hT kr22 kr64 kr254 _ _ _ _ _ _ h G hl
    · have h := oif_neg c2 h
      refine lv_aload_n hx hb dX12_load_74 rfl (lv_at hl 0 rfl) ?_
      refine m_get E G 10 (v := .ref (ad 10)) (by decide) (.tail _ qM_7) rfl dX12_load_75 rfl ?_
      refine lv_iload_n hx hb dX12_load_78 rfl (lv_at hl 1 rfl) ?_
      refine lv_aload_n hx hb dX12_load_79 rfl (lv_at hl 0 rfl) ?_
      refine m_get E G 11 (v := .ref (ad 11)) (by decide) (.tail _ qM_8) rfl dX12_load_80 rfl ?_
      refine lv_iload_n hx hb dX12_load_83 rfl (lv_at hl 1 rfl) ?_
      obtain ⟨g6, h⟩ := oif_some h
      refine m_iald E G 11 3 (n := 131) (k := l2.toNatClampNeg) rfl (inb_k g6).1 (inb_k g6).2 (by decide) dX12_load_84 ?_
      refine lv_topi (fun v7 ev7 => ?_)
      have h := elet_at ev7 h
      clear ev7
      obtain ⟨g8, h⟩ := oif_some h
      refine m_iast E G 10 2 (k := l2.toNatClampNeg) (v := v7) rfl (fun _ => rfl) (inb_k g8).1 (inb_k g8).2 (by decide) dX12_load_85 (fun H locs G => ?_)
      obtain ⟨S9, eS9, h⟩ := elet_some h
      rw [← eS9] at G
      clear eS9
      obtain ⟨v10, ev10, h⟩ := elet_some h
      refine lv_iinc (v := v10) (lv' := [(2, .int v10), (0, .ref (ad 0))]) hx hb dX12_load_86 hl (k := 1) rfl ev10.symm (by decide) rfl (fun ls hl => ?_)
      refine lv_goto (tgt := 67) hx hb dX12_load_89 (by decide) ?_
      have hl := lv_sub hl [1, 0] rfl
      exact ih _ _ _ _ _ h G hl
def fr_load (S : MS) (a0 : Int32) : Option (Int32 × MS) := elet (mi S 0 0) fun S2 => elet (S2.1 2) fun v3 => obind (fr_in a0 0 v3) fun r4 => if r4 = 0 then (obind2 (fr_throwsAt S2 1) fun r10 S7 => some (r10, S7)) else (elet (mi S2 3 a0) fun S11 => elet (mi S11 2 0) fun S12 => elet (mi S12 4 0) fun S13 => elet (mi S13 5 0) fun S14 => elet (mi S14 6 (-1)) fun S15 => obind (fr_readText S15) fun S16 => elet (S16.1 5) fun v19 => if v19 ≤ 0 then (fr_load_b67 16384 S16 0) else (obind2 (fr_throwsAt S16 2) fun r24 S21 => some (r24, S21)))
set_option maxHeartbeats 4000000 in
set_option maxRecDepth 100000 in
theorem tr_load (l : Launch) (D : va_G) (cI cJ cZ : ClassId) (ad : Nat → Nat) (S : MS) (h0 : Nat) (a0 : Int32) {r1 : Int32} {S1 : MS} (h : fr_load S a0 = some (r1, S1)) : mCiX l yX12_load (Cond.code yX12_load cX12_load 4 (some .int) :: wsM) 11 216 D cI cJ cZ ad S [.int a0] (xT0 cI cJ cZ h0 ad S) (fun r S9 => r = r1 ∧ S9 = S1) := by
  intro sz
  refine pro_in (cc := cX12_load) (maxL := 4) (ret := (some .int)) (by exact pn_RX12) rfl (by exact Nat.le_of_ble_eq_true rfl) (fun p e s m below meth c ls hx hb hr hts hown hlocks hml hv hl => ?_)
  obtain ⟨⟨hsz, hP, hK, hD0, hR⟩, hA1, hT⟩ := hv
  subst hsz
  have hD := hD0.self (sz := s.heap.size)
  generalize hAe : va_A (MW cI cJ cZ ad S) s.heap.size = A at hD hA1 ⊢
  have hA : ∀ q : Nat, s.heap.size ≤ q → A q := fun q h => by rw [← hAe]; exact Or.inr h
  have G : mG D cI cJ cZ ad A s.heap s.heap [] S := ⟨hP, hD, va_S.rf⟩
  have E : mE p c cX12_load s m ([.ref (ad 0), .int a0] : List Value).toArray (Cond.code yX12_load cX12_load 4 (some .int) :: wsM) D cI cJ cZ := ⟨hx, hb, hts, hown, hK, fun w h => .tail _ (iM_x h)⟩
  have hA0 : ∀ a : Nat, A a → h0 ≤ a := hA1
  have hl : lv_has ls 4 [(0, .ref (ad 0)), (1, .int a0)] := hl
  unfold fr_load at h
  refine lv_aload_n hx hb dX12_load_0 rfl (lv_at hl 0 rfl) ?_
  refine lv_iconst (v := 0) hx hb dX12_load_1 (by decide) ?_
  refine m_put E G 0 (by decide) (.tail _ qM_26) (mw_i0 _ _ _ _ _ 0) dX12_load_2 ⟨rfl, rfl, rfl⟩ rfl rfl (fun H locs G => ?_)
  obtain ⟨S2, eS2, h⟩ := elet_some h
  rw [← eS2] at G
  clear eS2
  refine lv_iload_n hx hb dX12_load_5 rfl (lv_at hl 1 rfl) ?_
  refine lv_iconst (v := 0) hx hb dX12_load_6 (by decide) ?_
  refine lv_aload_n hx hb dX12_load_7 rfl (lv_at hl 0 rfl) ?_
  refine m_get E G 2 (v := .int (S2.1 2)) (by decide) (.tail _ qM_30) rfl dX12_load_8 rfl ?_
  refine lv_topi (fun v3 ev3 => ?_)
  have h := elet_at ev3 h
  clear ev3
  obtain ⟨r4, er4, h⟩ := obind_some h
  refine m_stat (As := [.int a0, .int 0, .int v3]) (rest := []) ⟨hx, hb, hml, hown, hts⟩ (tr_in l a0 0 v3 er4) (cwS 3 hts (gmS qM_52 qM_53 qM_35 qM_27) rfl rfl rfl (by decide +kernel) ⟨Nat.le_of_ble_eq_true rfl, Nat.le_of_ble_eq_true rfl⟩) rfl hl.1 rfl (lv_room (Nat.le_of_ble_eq_true rfl)) dX12_load_11 ⟨Nat.zero_le _, Nat.zero_le _⟩ (fun q5 hq => ?_)
  refine lv_to hq ?_
  clear hq er4
  refine lv_if_ne (tgt := 23) hx hb dX12_load_14 (by decide) (fun c6 => ?_) (fun c6 => ?_)
  · have h := oif_neg c6 h
    refine lv_aload_n hx hb dX12_load_23 rfl (lv_at hl 0 rfl) ?_
    refine lv_iload_n hx hb dX12_load_24 rfl (lv_at hl 1 rfl) ?_
    refine m_put E G 3 (by decide) (.tail _ qM_41) (mw_i3 _ _ _ _ _ a0) dX12_load_25 ⟨rfl, rfl, rfl⟩ rfl rfl (fun H locs G => ?_)
    obtain ⟨S11, eS11, h⟩ := elet_some h
    rw [← eS11] at G
    clear eS11
    refine lv_aload_n hx hb dX12_load_28 rfl (lv_at hl 0 rfl) ?_
    refine lv_iconst (v := 0) hx hb dX12_load_29 (by decide) ?_
    refine m_put E G 2 (by decide) (.tail _ qM_30) (mw_i2 _ _ _ _ _ 0) dX12_load_30 ⟨rfl, rfl, rfl⟩ rfl rfl (fun H locs G => ?_)
    obtain ⟨S12, eS12, h⟩ := elet_some h
    rw [← eS12] at G
    clear eS12
    refine lv_aload_n hx hb dX12_load_33 rfl (lv_at hl 0 rfl) ?_
    refine lv_iconst (v := 0) hx hb dX12_load_34 (by decide) ?_
    refine m_put E G 4 (by decide) (.tail _ qM_46) (mw_i4 _ _ _ _ _ 0) dX12_load_35 ⟨rfl, rfl, rfl⟩ rfl rfl (fun H locs G => ?_)
    obtain ⟨S13, eS13, h⟩ := elet_some h
    rw [← eS13] at G
    clear eS13
    refine lv_aload_n hx hb dX12_load_38 rfl (lv_at hl 0 rfl) ?_
    refine lv_iconst (v := 0) hx hb dX12_load_39 (by decide) ?_
    refine m_put E G 5 (by decide) (.tail _ qM_38) (mw_i5 _ _ _ _ _ 0) dX12_load_40 ⟨rfl, rfl, rfl⟩ rfl rfl (fun H locs G => ?_)
    obtain ⟨S14, eS14, h⟩ := elet_some h
    rw [← eS14] at G
    clear eS14
    refine lv_aload_n hx hb dX12_load_43 rfl (lv_at hl 0 rfl) ?_
    refine lv_iconst (v := (-1)) hx hb dX12_load_44 (by decide) ?_
    refine m_put E G 6 (by decide) (.tail _ qM_6) (mw_i6 _ _ _ _ _ (-1)) dX12_load_45 ⟨rfl, rfl, rfl⟩ rfl rfl (fun H locs G => ?_)
    obtain ⟨S15, eS15, h⟩ := elet_some h
    rw [← eS15] at G
    clear eS15
    refine lv_aload_n hx hb dX12_load_48 rfl (lv_at hl 0 rfl) ?_
    obtain ⟨S16, eS16, h⟩ := obind_some h
    refine m_callvX (As := []) (rest := []) E G hA hR hml (tr_readText l D cI cJ cZ ad S15 h0 eS16) (cwV 0 hts (gmV qM_198 qM_199 qM_200 qM_35 qM_185) rfl rfl rfl (by decide +kernel) ⟨Nat.le_of_ble_eq_true rfl, Nat.le_of_ble_eq_true rfl⟩) rfl hl.1 rfl (lv_room (Nat.le_of_ble_eq_true rfl)) dX12_load_49 ⟨Nat.zero_le _, Nat.zero_le _⟩ (xT0.blind) (xT0.go hT hA0 hA G) (fun S18 H locs hq G => ?_)
    rw [hq] at G
    clear hq eS16
    refine lv_aload_n hx hb dX12_load_52 rfl (lv_at hl 0 rfl) ?_
    refine m_get E G 5 (v := .int (S16.1 5)) (by decide) (.tail _ qM_38) rfl dX12_load_53 rfl ?_
    refine lv_topi (fun v19 ev19 => ?_)
    have h := elet_at ev19 h
    clear ev19
    refine lv_if_le (tgt := 65) hx hb dX12_load_56 (by decide) (fun c20 => ?_) (fun c20 => ?_)
    · have h := oif_pos c20 h
      refine lv_iconst (v := 0) hx hb dX12_load_65 (by decide) ?_
      refine lv_istore_n (lv' := [(2, .int 0), (0, .ref (ad 0)), (1, .int a0)]) hx hb dX12_load_66 rfl hl (by decide) rfl (fun ls hl => ?_)
      have hl := lv_sub hl [1, 0] rfl
      exact tr_load_b67 E hA hR hml hA0 hT (fun H locs ls G => W.iret (v := r1) hx hb hr (fun t ht hW => ⟨⟨r1, S1, rfl, ⟨rfl, rfl⟩, ⟨by rw [ht]; exact G.1, va_K.moved hW.alike hK, G.2.1⟩⟩, G.2.2.F ht⟩) G.2.2.2.2 dX12_load_22) (fun H locs ls G => W.iret (v := r1) hx hb hr (fun t ht hW => ⟨⟨r1, S1, rfl, ⟨rfl, rfl⟩, ⟨by rw [ht]; exact G.1, va_K.moved hW.alike hK, G.2.1⟩⟩, G.2.2.F ht⟩) G.2.2.2.2 dX12_load_64) (fun H locs ls G => W.iret (v := r1) hx hb hr (fun t ht hW => ⟨⟨r1, S1, rfl, ⟨rfl, rfl⟩, ⟨by rw [ht]; exact G.1, va_K.moved hW.alike hK, G.2.1⟩⟩, G.2.2.F ht⟩) G.2.2.2.2 dX12_load_254) _ _ _ _ _ _ h G hl
    · have h := oif_neg c20 h
      refine lv_aload_n hx hb dX12_load_59 rfl (lv_at hl 0 rfl) ?_
      refine lv_iconst (v := 2) hx hb dX12_load_60 (by decide) ?_
      obtain ⟨r24, S21, eS21, h⟩ := obind2_some h
      refine m_calli (As := [.int 2]) (rest := []) E G hA hR hml (tr_throwsAt l D cI cJ cZ ad S16 2 eS21) (cwV 1 hts (gmV qM_195 qM_196 qM_197 qM_35 qM_28) rfl rfl rfl (by decide +kernel) ⟨Nat.le_of_ble_eq_true rfl, Nat.le_of_ble_eq_true rfl⟩) rfl hl.1 rfl (lv_room (Nat.le_of_ble_eq_true rfl)) dX12_load_61 ⟨Nat.zero_le _, Nat.zero_le _⟩ (fun q22 S23 H locs hq G => ?_)
      obtain ⟨hq1, hq2⟩ := hq
      rw [hq2] at G
      refine lv_to hq1 ?_
      clear hq1 hq2 eS21
      exact W.iret (v := r24) hx hb hr (fun t ht hW => ⟨⟨r24, S21, rfl, osome2 h, ⟨by rw [ht]; exact G.1, va_K.moved hW.alike hK, G.2.1⟩⟩, G.2.2.F ht⟩) G.2.2.2.2 dX12_load_64
  · have h := oif_pos c6 h
    refine lv_aload_n hx hb dX12_load_17 rfl (lv_at hl 0 rfl) ?_
    refine lv_iconst (v := 1) hx hb dX12_load_18 (by decide) ?_
    obtain ⟨r10, S7, eS7, h⟩ := obind2_some h
    refine m_calli (As := [.int 1]) (rest := []) E G hA hR hml (tr_throwsAt l D cI cJ cZ ad S2 1 eS7) (cwV 1 hts (gmV qM_195 qM_196 qM_197 qM_35 qM_28) rfl rfl rfl (by decide +kernel) ⟨Nat.le_of_ble_eq_true rfl, Nat.le_of_ble_eq_true rfl⟩) rfl hl.1 rfl (lv_room (Nat.le_of_ble_eq_true rfl)) dX12_load_19 ⟨Nat.zero_le _, Nat.zero_le _⟩ (fun q8 S9 H locs hq G => ?_)
    obtain ⟨hq1, hq2⟩ := hq
    rw [hq2] at G
    refine lv_to hq1 ?_
    clear hq1 hq2 eS7
    exact W.iret (v := r10) hx hb hr (fun t ht hW => ⟨⟨r10, S7, rfl, osome2 h, ⟨by rw [ht]; exact G.1, va_K.moved hW.alike hK, G.2.1⟩⟩, G.2.2.F ht⟩) G.2.2.2.2 dX12_load_22
def fr_copy_12_15_b3  : Nat → MS → Int32 → Int32 → Int32 → Option (MS)
  | 0, _, _, _, _ => none
  | n + 1, S, l1, l3, l4 => if 2455 ≤ l4 then (some S) else (elet (l3 + l4) fun v3 => elet (l1 + l4) fun v4 => oif (inb v4 2455 = true) <| elet (S.2.1 12 v4.toNatClampNeg) fun v6 => oif (inb v3 14730 = true) <| elet (mf S 15 (upd (S.2.1 15) v3.toNatClampNeg v6)) fun S8 => elet (l4 + Int32.ofInt (1)) fun v9 => fr_copy_12_15_b3 n S8 l1 l3 v9)
set_option maxHeartbeats 4000000 in
set_option maxRecDepth 100000 in
theorem tr_copy_12_15_b3 {p : Program} {l : Launch} {e : Env} {s : State} {m : MethodId} {args : Array Value} {below : List Frame} {meth : Method} {c : Code} {Q : State → Prop} {D : va_G} {A : Nat → Prop} {H0 : Heap} {cI cJ cZ : ClassId} {ad : Nat → Nat} {S1 : MS} (E : mE p c cX12_copy s m args (Cond.code yX12_copy cX12_copy 5 none :: wsM) D cI cJ cZ) (hA : ∀ q : Nat, H0.size ≤ q → A q) (hR : sR s) (hml : c.maxLocals = 5) (kr29 : ∀ (H : Heap) (locs : List Loc) (ls : Array Slot), mG D cI cJ cZ ad A H0 H locs S1 → W p l e { frames := 1, cells := 0, slots := 0, locals := 0 } s m args below meth c H locs 0 0 Q (F0 m 29 ls [])) : ∀ n : Nat, ∀ (S : MS) (H : Heap) (locs : List Loc) (ls : Array Slot) (l1 : Int32) (l3 : Int32) (l4 : Int32), fr_copy_12_15_b3 n S l1 l3 l4 = some S1 → mG D cI cJ cZ ad A H0 H locs S → lv_has ls 5 [(0, .ref (ad 12)), (1, .int l1), (2, .ref (ad 15)), (3, .int l3), (4, .int l4)] → W p l e { frames := 1, cells := 0, slots := 0, locals := 0 } s m args below meth c H locs 0 0 Q (F0 m 3 ls []) := by
  have hx := E.1
  have hb := E.2.1
  have hts := E.2.2.1
  have hown := E.2.2.2.1
  have hK := E.2.2.2.2.1
  intro n
  induction n with
  | zero =>
    intro S H locs ls l1 l3 l4 h
    have h : (none : Option (MS)) = some S1 := h
    cases h
  | succ n ih =>
    intro S H locs ls l1 l3 l4 h G hl
    unfold fr_copy_12_15_b3 at h
    refine lv_iload hx hb dX12_copy_3 (lv_at hl 4 rfl) ?_
    refine lv_sipush (v := 2455) hx hb dX12_copy_5 (by decide) ?_
    refine lv_icmp_ge (tgt := 29) hx hb dX12_copy_8 (by decide) (fun c2 => ?_) (fun c2 => ?_)
    · have h := oif_pos c2 h
      rw [osome1 h] at G
      exact kr29 _ _ _ G
    · have h := oif_neg c2 h
      refine lv_aload_n hx hb dX12_copy_11 rfl (lv_at hl 2 rfl) ?_
      refine lv_iload_n hx hb dX12_copy_12 rfl (lv_at hl 3 rfl) ?_
      refine lv_iload hx hb dX12_copy_13 (lv_at hl 4 rfl) ?_
      refine lv_iadd hx hb dX12_copy_15 ?_
      refine lv_topi (fun v3 ev3 => ?_)
      have h := elet_at ev3 h
      clear ev3
      refine lv_aload_n hx hb dX12_copy_16 rfl (lv_at hl 0 rfl) ?_
      refine lv_iload_n hx hb dX12_copy_17 rfl (lv_at hl 1 rfl) ?_
      refine lv_iload hx hb dX12_copy_18 (lv_at hl 4 rfl) ?_
      refine lv_iadd hx hb dX12_copy_20 ?_
      refine lv_topi (fun v4 ev4 => ?_)
      have h := elet_at ev4 h
      clear ev4
      obtain ⟨g5, h⟩ := oif_some h
      refine m_iald E G 12 4 (n := 2455) (k := v4.toNatClampNeg) rfl (inb_k g5).1 (inb_k g5).2 (by decide) dX12_copy_21 ?_
      refine lv_topi (fun v6 ev6 => ?_)
      have h := elet_at ev6 h
      clear ev6
      obtain ⟨g7, h⟩ := oif_some h
      refine m_iast E G 15 7 (k := v3.toNatClampNeg) (v := v6) rfl (fun _ => rfl) (inb_k g7).1 (inb_k g7).2 (by decide) dX12_copy_22 (fun H locs G => ?_)
      obtain ⟨S8, eS8, h⟩ := elet_some h
      rw [← eS8] at G
      clear eS8
      obtain ⟨v9, ev9, h⟩ := elet_some h
      refine lv_iinc (v := v9) (lv' := [(4, .int v9), (0, .ref (ad 12)), (1, .int l1), (2, .ref (ad 15)), (3, .int l3)]) hx hb dX12_copy_23 hl (k := 4) rfl ev9.symm (by decide) rfl (fun ls hl => ?_)
      refine lv_goto (tgt := 3) hx hb dX12_copy_26 (by decide) ?_
      have hl := lv_sub hl [1, 2, 3, 4, 0] rfl
      exact ih _ _ _ _ _ _ _ h G hl
def fr_copy_12_15 (S : MS) (a1 : Int32) (a3 : Int32) : Option (MS) := fr_copy_12_15_b3 16384 S a1 a3 0
set_option maxHeartbeats 4000000 in
set_option maxRecDepth 100000 in
theorem tr_copy_12_15 (l : Launch) (D : va_G) (cI cJ cZ : ClassId) (ad : Nat → Nat) (S : MS) (a1 : Int32) (a3 : Int32) {S1 : MS} (h : fr_copy_12_15 S a1 a3 = some S1) : mCs l yX12_copy (Cond.code yX12_copy cX12_copy 5 none :: wsM) 1 0 D cI cJ cZ ad S [.ref (ad 12), .int a1, .ref (ad 15), .int a3] (fun S9 => S9 = S1) := by
  intro sz
  refine pro_in (cc := cX12_copy) (maxL := 5) (ret := none) (by exact pn_RX12) rfl (by exact Nat.le_of_ble_eq_true rfl) (fun p e s m below meth c ls hx hb hr hts hown hlocks hml hv hl => ?_)
  obtain ⟨hsz, hP, hK, hD0, hR⟩ := hv
  subst hsz
  have hD := hD0.self (sz := s.heap.size)
  generalize hAe : va_A (MW cI cJ cZ ad S) s.heap.size = A at hD ⊢
  have hA : ∀ q : Nat, s.heap.size ≤ q → A q := fun q h => by rw [← hAe]; exact Or.inr h
  have G : mG D cI cJ cZ ad A s.heap s.heap [] S := ⟨hP, hD, va_S.rf⟩
  have E : mE p c cX12_copy s m ([.ref (ad 12), .int a1, .ref (ad 15), .int a3] : List Value).toArray (Cond.code yX12_copy cX12_copy 5 none :: wsM) D cI cJ cZ := ⟨hx, hb, hts, hown, hK, fun w h => .tail _ (iM_x h)⟩
  have hl : lv_has ls 5 [(0, .ref (ad 12)), (1, .int a1), (2, .ref (ad 15)), (3, .int a3)] := hl
  unfold fr_copy_12_15 at h
  refine lv_iconst (v := 0) hx hb dX12_copy_0 (by decide) ?_
  refine lv_istore (lv' := [(4, .int 0), (0, .ref (ad 12)), (1, .int a1), (2, .ref (ad 15)), (3, .int a3)]) hx hb dX12_copy_1 hl (by decide) rfl (fun ls hl => ?_)
  have hl := lv_sub hl [1, 2, 3, 4, 0] rfl
  exact tr_copy_12_15_b3 E hA hR hml (fun H locs ls G => W.vret hx hb hr (fun t ht hW => ⟨⟨S1, rfl, rfl, ⟨by rw [ht]; exact G.1, va_K.moved hW.alike hK, G.2.1⟩⟩, G.2.2.F ht⟩) G.2.2.2.2 dX12_copy_29) _ _ _ _ _ _ _ _ h G hl
def fr_remember_b54  (S : MS)  : Option (MS) := elet (S.1 19) fun v2 => elet (2455 * v2) fun v3 => obind (fr_copy_12_15 S 0 v3) fun S4 => elet (S4.1 19) fun v7 => elet (v7 + 1) fun v8 => elet (mi S4 19 v8) fun S9 => some S9
set_option maxHeartbeats 4000000 in
set_option maxRecDepth 100000 in
theorem tr_remember_b54 {p : Program} {l : Launch} {e : Env} {s : State} {m : MethodId} {args : Array Value} {below : List Frame} {meth : Method} {c : Code} {Q : State → Prop} {D : va_G} {A : Nat → Prop} {H0 : Heap} {cI cJ cZ : ClassId} {ad : Nat → Nat} {S1 : MS} (E : mE p c cX12_remember s m args (Cond.code yX12_remember cX12_remember 2 none :: wsM) D cI cJ cZ) (hA : ∀ q : Nat, H0.size ≤ q → A q) (hR : sR s) (hml : c.maxLocals = 2) (kr84 : ∀ (H : Heap) (locs : List Loc) (ls : Array Slot), mG D cI cJ cZ ad A H0 H locs S1 → W p l e { frames := 2, cells := 0, slots := 0, locals := 24 } s m args below meth c H locs 0 0 Q (F0 m 84 ls [])) : ∀ (S : MS) (H : Heap) (locs : List Loc) (ls : Array Slot), fr_remember_b54 S = some S1 → mG D cI cJ cZ ad A H0 H locs S → lv_has ls 2 [(0, .ref (ad 0))] → W p l e { frames := 2, cells := 0, slots := 0, locals := 24 } s m args below meth c H locs 0 0 Q (F0 m 54 ls []) := by
  have hx := E.1
  have hb := E.2.1
  have hts := E.2.2.1
  have hown := E.2.2.2.1
  have hK := E.2.2.2.2.1
  intro S H locs ls h G hl
  unfold fr_remember_b54 at h
  refine lv_aload_n hx hb dX12_remember_54 rfl (lv_at hl 0 rfl) ?_
  refine m_get E G 12 (v := .ref (ad 12)) (by decide) (.tail _ qM_9) rfl dX12_remember_55 rfl ?_
  refine lv_iconst (v := 0) hx hb dX12_remember_58 (by decide) ?_
  refine lv_aload_n hx hb dX12_remember_59 rfl (lv_at hl 0 rfl) ?_
  refine m_get E G 15 (v := .ref (ad 15)) (by decide) (.tail _ qM_12) rfl dX12_remember_60 rfl ?_
  refine lv_sipush (v := 2455) hx hb dX12_remember_63 (by decide) ?_
  refine lv_aload_n hx hb dX12_remember_66 rfl (lv_at hl 0 rfl) ?_
  refine m_get E G 19 (v := .int (S.1 19)) (by decide) (.tail _ qM_194) rfl dX12_remember_67 rfl ?_
  refine lv_topi (fun v2 ev2 => ?_)
  have h := elet_at ev2 h
  clear ev2
  refine lv_imul hx hb dX12_remember_70 ?_
  refine lv_topi (fun v3 ev3 => ?_)
  have h := elet_at ev3 h
  clear ev3
  obtain ⟨S4, eS4, h⟩ := obind_some h
  refine m_calls (As := [.ref (ad 12), .int 0, .ref (ad 15), .int v3]) (rest := []) E G hA hR hml (tr_copy_12_15 l D cI cJ cZ ad S 0 v3 eS4) (cwS 4 hts (gmS qM_201 qM_202 qM_35 qM_203) rfl rfl rfl (by decide +kernel) ⟨Nat.le_of_ble_eq_true rfl, Nat.le_of_ble_eq_true rfl⟩) rfl hl.1 rfl (lv_room (Nat.le_of_ble_eq_true rfl)) dX12_remember_71 ⟨Nat.zero_le _, Nat.zero_le _⟩ (fun S6 H locs hq G => ?_)
  rw [hq] at G
  clear hq eS4
  refine lv_aload_n hx hb dX12_remember_74 rfl (lv_at hl 0 rfl) ?_
  refine lv_dup hx hb dX12_remember_75 rfl ?_
  refine m_get E G 19 (v := .int (S4.1 19)) (by decide) (.tail _ qM_194) rfl dX12_remember_76 rfl ?_
  refine lv_topi (fun v7 ev7 => ?_)
  have h := elet_at ev7 h
  clear ev7
  refine lv_iconst (v := 1) hx hb dX12_remember_79 (by decide) ?_
  refine lv_iadd hx hb dX12_remember_80 ?_
  refine lv_topi (fun v8 ev8 => ?_)
  have h := elet_at ev8 h
  clear ev8
  refine m_put E G 19 (by decide) (.tail _ qM_194) (mw_i19 _ _ _ _ _ v8) dX12_remember_81 ⟨rfl, rfl, rfl⟩ rfl rfl (fun H locs G => ?_)
  obtain ⟨S9, eS9, h⟩ := elet_some h
  rw [← eS9] at G
  clear eS9
  rw [osome1 h] at G
  exact kr84 _ _ _ G
def fr_remember_b13  : Nat → MS → Int32 → Option (MS)
  | 0, _, _ => none
  | n + 1, S, l1 => if 14730 ≤ l1 then (elet (S.1 19) fun v3 => elet (v3 - 1) fun v4 => elet (mi S 19 v4) fun S5 => fr_remember_b54 S5) else (elet (l1 - 2455) fun v6 => oif (inb l1 14730 = true) <| elet (S.2.1 15 l1.toNatClampNeg) fun v8 => oif (inb v6 14730 = true) <| elet (mf S 15 (upd (S.2.1 15) v6.toNatClampNeg v8)) fun S10 => elet (l1 + Int32.ofInt (1)) fun v11 => fr_remember_b13 n S10 v11)
set_option maxHeartbeats 4000000 in
set_option maxRecDepth 100000 in
theorem tr_remember_b13 {p : Program} {l : Launch} {e : Env} {s : State} {m : MethodId} {args : Array Value} {below : List Frame} {meth : Method} {c : Code} {Q : State → Prop} {D : va_G} {A : Nat → Prop} {H0 : Heap} {cI cJ cZ : ClassId} {ad : Nat → Nat} {S1 : MS} (E : mE p c cX12_remember s m args (Cond.code yX12_remember cX12_remember 2 none :: wsM) D cI cJ cZ) (hA : ∀ q : Nat, H0.size ≤ q → A q) (hR : sR s) (hml : c.maxLocals = 2) (kr84 : ∀ (H : Heap) (locs : List Loc) (ls : Array Slot), mG D cI cJ cZ ad A H0 H locs S1 → W p l e { frames := 2, cells := 0, slots := 0, locals := 24 } s m args below meth c H locs 0 0 Q (F0 m 84 ls [])) : ∀ n : Nat, ∀ (S : MS) (H : Heap) (locs : List Loc) (ls : Array Slot) (l1 : Int32), fr_remember_b13 n S l1 = some S1 → mG D cI cJ cZ ad A H0 H locs S → lv_has ls 2 [(0, .ref (ad 0)), (1, .int l1)] → W p l e { frames := 2, cells := 0, slots := 0, locals := 24 } s m args below meth c H locs 0 0 Q (F0 m 13 ls []) := by
  have hx := E.1
  have hb := E.2.1
  have hts := E.2.2.1
  have hown := E.2.2.2.1
  have hK := E.2.2.2.2.1
  intro n
  induction n with
  | zero =>
    intro S H locs ls l1 h
    have h : (none : Option (MS)) = some S1 := h
    cases h
  | succ n ih =>
    intro S H locs ls l1 h G hl
    unfold fr_remember_b13 at h
    refine lv_iload_n hx hb dX12_remember_13 rfl (lv_at hl 1 rfl) ?_
    refine lv_aload_n hx hb dX12_remember_14 rfl (lv_at hl 0 rfl) ?_
    refine m_get E G 15 (v := .ref (ad 15)) (by decide) (.tail _ qM_12) rfl dX12_remember_15 rfl ?_
    refine va_alen hx hb hK G.1 7 0 rfl rfl (v := 14730) rfl dX12_remember_18 ?_
    refine lv_icmp_ge (tgt := 44) hx hb dX12_remember_19 (by decide) (fun c2 => ?_) (fun c2 => ?_)
    · have h := oif_pos c2 h
      refine lv_aload_n hx hb dX12_remember_44 rfl (lv_at hl 0 rfl) ?_
      refine lv_dup hx hb dX12_remember_45 rfl ?_
      refine m_get E G 19 (v := .int (S.1 19)) (by decide) (.tail _ qM_194) rfl dX12_remember_46 rfl ?_
      refine lv_topi (fun v3 ev3 => ?_)
      have h := elet_at ev3 h
      clear ev3
      refine lv_iconst (v := 1) hx hb dX12_remember_49 (by decide) ?_
      refine lv_isub hx hb dX12_remember_50 ?_
      refine lv_topi (fun v4 ev4 => ?_)
      have h := elet_at ev4 h
      clear ev4
      refine m_put E G 19 (by decide) (.tail _ qM_194) (mw_i19 _ _ _ _ _ v4) dX12_remember_51 ⟨rfl, rfl, rfl⟩ rfl rfl (fun H locs G => ?_)
      obtain ⟨S5, eS5, h⟩ := elet_some h
      rw [← eS5] at G
      clear eS5
      have hl := lv_sub hl [0] rfl
      exact tr_remember_b54 E hA hR hml kr84 _ _ _ _ h G hl
    · have h := oif_neg c2 h
      refine lv_aload_n hx hb dX12_remember_22 rfl (lv_at hl 0 rfl) ?_
      refine m_get E G 15 (v := .ref (ad 15)) (by decide) (.tail _ qM_12) rfl dX12_remember_23 rfl ?_
      refine lv_iload_n hx hb dX12_remember_26 rfl (lv_at hl 1 rfl) ?_
      refine lv_sipush (v := 2455) hx hb dX12_remember_27 (by decide) ?_
      refine lv_isub hx hb dX12_remember_30 ?_
      refine lv_topi (fun v6 ev6 => ?_)
      have h := elet_at ev6 h
      clear ev6
      refine lv_aload_n hx hb dX12_remember_31 rfl (lv_at hl 0 rfl) ?_
      refine m_get E G 15 (v := .ref (ad 15)) (by decide) (.tail _ qM_12) rfl dX12_remember_32 rfl ?_
      refine lv_iload_n hx hb dX12_remember_35 rfl (lv_at hl 1 rfl) ?_
      obtain ⟨g7, h⟩ := oif_some h
      refine m_iald E G 15 7 (n := 14730) (k := l1.toNatClampNeg) rfl (inb_k g7).1 (inb_k g7).2 (by decide) dX12_remember_36 ?_
      refine lv_topi (fun v8 ev8 => ?_)
      have h := elet_at ev8 h
      clear ev8
      obtain ⟨g9, h⟩ := oif_some h
      refine m_iast E G 15 7 (k := v6.toNatClampNeg) (v := v8) rfl (fun _ => rfl) (inb_k g9).1 (inb_k g9).2 (by decide) dX12_remember_37 (fun H locs G => ?_)
      obtain ⟨S10, eS10, h⟩ := elet_some h
      rw [← eS10] at G
      clear eS10
      obtain ⟨v11, ev11, h⟩ := elet_some h
      refine lv_iinc (v := v11) (lv' := [(1, .int v11), (0, .ref (ad 0))]) hx hb dX12_remember_38 hl (k := 1) rfl ev11.symm (by decide) rfl (fun ls hl => ?_)
      refine lv_goto (tgt := 13) hx hb dX12_remember_41 (by decide) ?_
      have hl := lv_sub hl [1, 0] rfl
      exact ih _ _ _ _ _ h G hl
def fr_remember (S : MS)  : Option (MS) := elet (S.1 19) fun v2 => if v2 = 6 then (fr_remember_b13 16384 S 2455) else (fr_remember_b54 S)
set_option maxHeartbeats 4000000 in
set_option maxRecDepth 100000 in
theorem tr_remember (l : Launch) (D : va_G) (cI cJ cZ : ClassId) (ad : Nat → Nat) (S : MS)  {S1 : MS} (h : fr_remember S = some S1) : mCv l yX12_remember (Cond.code yX12_remember cX12_remember 2 none :: wsM) 2 24 D cI cJ cZ ad S [] (fun S9 => S9 = S1) := by
  intro sz
  refine pro_in (cc := cX12_remember) (maxL := 2) (ret := none) (by exact pn_RX12) rfl (by exact Nat.le_of_ble_eq_true rfl) (fun p e s m below meth c ls hx hb hr hts hown hlocks hml hv hl => ?_)
  obtain ⟨hsz, hP, hK, hD0, hR⟩ := hv
  subst hsz
  have hD := hD0.self (sz := s.heap.size)
  generalize hAe : va_A (MW cI cJ cZ ad S) s.heap.size = A at hD ⊢
  have hA : ∀ q : Nat, s.heap.size ≤ q → A q := fun q h => by rw [← hAe]; exact Or.inr h
  have G : mG D cI cJ cZ ad A s.heap s.heap [] S := ⟨hP, hD, va_S.rf⟩
  have E : mE p c cX12_remember s m ([.ref (ad 0)] : List Value).toArray (Cond.code yX12_remember cX12_remember 2 none :: wsM) D cI cJ cZ := ⟨hx, hb, hts, hown, hK, fun w h => .tail _ (iM_x h)⟩
  have hl : lv_has ls 2 [(0, .ref (ad 0))] := hl
  unfold fr_remember at h
  refine lv_aload_n hx hb dX12_remember_0 rfl (lv_at hl 0 rfl) ?_
  refine m_get E G 19 (v := .int (S.1 19)) (by decide) (.tail _ qM_194) rfl dX12_remember_1 rfl ?_
  refine lv_topi (fun v2 ev2 => ?_)
  have h := elet_at ev2 h
  clear ev2
  refine lv_bipush (v := 6) hx hb dX12_remember_4 (by decide) ?_
  refine lv_icmp_ne (tgt := 54) hx hb dX12_remember_6 (by decide) (fun c3 => ?_) (fun c3 => ?_)
  · have h := oif_neg c3 h
    have hl := lv_sub hl [0] rfl
    exact tr_remember_b54 E hA hR hml (fun H locs ls G => W.vret hx hb hr (fun t ht hW => ⟨⟨S1, rfl, rfl, ⟨by rw [ht]; exact G.1, va_K.moved hW.alike hK, G.2.1⟩⟩, G.2.2.F ht⟩) G.2.2.2.2 dX12_remember_84) _ _ _ _ h G hl
  · have h := oif_pos c3 h
    refine lv_sipush (v := 2455) hx hb dX12_remember_9 (by decide) ?_
    refine lv_istore_n (lv' := [(1, .int 2455), (0, .ref (ad 0))]) hx hb dX12_remember_12 rfl hl (by decide) rfl (fun ls hl => ?_)
    have hl := lv_sub hl [1, 0] rfl
    exact tr_remember_b13 E hA hR hml (fun H locs ls G => W.vret hx hb hr (fun t ht hW => ⟨⟨S1, rfl, rfl, ⟨by rw [ht]; exact G.1, va_K.moved hW.alike hK, G.2.1⟩⟩, G.2.2.F ht⟩) G.2.2.2.2 dX12_remember_84) _ _ _ _ _ _ h G hl
def fr_laysCell_b2  : Nat → MS → Int32 → Int32 → Option (MS)
  | 0, _, _, _ => none
  | n + 1, S, l1, l2 => elet (S.2.1 10 4) fun v2 => if v2 ≤ l2 then (some S) else (elet (12 * l1) fun v4 => elet (v4 + l2) fun v5 => oif (inb v5 1728 = true) <| elet (S.2.1 17 v5.toNatClampNeg) fun v7 => oif (inb l2 12 = true) <| elet (mf S 24 (upd (S.2.1 24) l2.toNatClampNeg v7)) fun S9 => elet (l2 + Int32.ofInt (1)) fun v10 => fr_laysCell_b2 n S9 l1 v10)
set_option maxHeartbeats 4000000 in
set_option maxRecDepth 100000 in
theorem tr_laysCell_b2 {p : Program} {l : Launch} {e : Env} {s : State} {m : MethodId} {args : Array Value} {below : List Frame} {meth : Method} {c : Code} {Q : State → Prop} {D : va_G} {A : Nat → Prop} {H0 : Heap} {cI cJ cZ : ClassId} {ad : Nat → Nat} {S1 : MS} (E : mE p c cX12_laysCell s m args (Cond.code yX12_laysCell cX12_laysCell 3 none :: wsM) D cI cJ cZ) (hA : ∀ q : Nat, H0.size ≤ q → A q) (hR : sR s) (hml : c.maxLocals = 3) (kr35 : ∀ (H : Heap) (locs : List Loc) (ls : Array Slot), mG D cI cJ cZ ad A H0 H locs S1 → W p l e { frames := 1, cells := 0, slots := 0, locals := 0 } s m args below meth c H locs 0 0 Q (F0 m 35 ls [])) : ∀ n : Nat, ∀ (S : MS) (H : Heap) (locs : List Loc) (ls : Array Slot) (l1 : Int32) (l2 : Int32), fr_laysCell_b2 n S l1 l2 = some S1 → mG D cI cJ cZ ad A H0 H locs S → lv_has ls 3 [(0, .ref (ad 0)), (1, .int l1), (2, .int l2)] → W p l e { frames := 1, cells := 0, slots := 0, locals := 0 } s m args below meth c H locs 0 0 Q (F0 m 2 ls []) := by
  have hx := E.1
  have hb := E.2.1
  have hts := E.2.2.1
  have hown := E.2.2.2.1
  have hK := E.2.2.2.2.1
  intro n
  induction n with
  | zero =>
    intro S H locs ls l1 l2 h
    have h : (none : Option (MS)) = some S1 := h
    cases h
  | succ n ih =>
    intro S H locs ls l1 l2 h G hl
    unfold fr_laysCell_b2 at h
    refine lv_iload_n hx hb dX12_laysCell_2 rfl (lv_at hl 2 rfl) ?_
    refine lv_aload_n hx hb dX12_laysCell_3 rfl (lv_at hl 0 rfl) ?_
    refine m_get E G 10 (v := .ref (ad 10)) (by decide) (.tail _ qM_7) rfl dX12_laysCell_4 rfl ?_
    refine lv_iconst (v := 4) hx hb dX12_laysCell_7 (by decide) ?_
    refine m_iald E G 10 2 (n := 131) (k := 4) rfl rfl (by decide) (by decide) dX12_laysCell_8 ?_
    refine lv_topi (fun v2 ev2 => ?_)
    have h := elet_at ev2 h
    clear ev2
    refine lv_icmp_ge (tgt := 35) hx hb dX12_laysCell_9 (by decide) (fun c3 => ?_) (fun c3 => ?_)
    · have h := oif_pos c3 h
      rw [osome1 h] at G
      exact kr35 _ _ _ G
    · have h := oif_neg c3 h
      refine lv_aload_n hx hb dX12_laysCell_12 rfl (lv_at hl 0 rfl) ?_
      refine m_get E G 24 (v := .ref (ad 24)) (by decide) (.tail _ qM_19) rfl dX12_laysCell_13 rfl ?_
      refine lv_iload_n hx hb dX12_laysCell_16 rfl (lv_at hl 2 rfl) ?_
      refine lv_aload_n hx hb dX12_laysCell_17 rfl (lv_at hl 0 rfl) ?_
      refine m_get E G 17 (v := .ref (ad 17)) (by decide) (.tail _ qM_14) rfl dX12_laysCell_18 rfl ?_
      refine lv_bipush (v := 12) hx hb dX12_laysCell_21 (by decide) ?_
      refine lv_iload_n hx hb dX12_laysCell_23 rfl (lv_at hl 1 rfl) ?_
      refine lv_imul hx hb dX12_laysCell_24 ?_
      refine lv_topi (fun v4 ev4 => ?_)
      have h := elet_at ev4 h
      clear ev4
      refine lv_iload_n hx hb dX12_laysCell_25 rfl (lv_at hl 2 rfl) ?_
      refine lv_iadd hx hb dX12_laysCell_26 ?_
      refine lv_topi (fun v5 ev5 => ?_)
      have h := elet_at ev5 h
      clear ev5
      obtain ⟨g6, h⟩ := oif_some h
      refine m_iald E G 17 9 (n := 1728) (k := v5.toNatClampNeg) rfl (inb_k g6).1 (inb_k g6).2 (by decide) dX12_laysCell_27 ?_
      refine lv_topi (fun v7 ev7 => ?_)
      have h := elet_at ev7 h
      clear ev7
      obtain ⟨g8, h⟩ := oif_some h
      refine m_iast E G 24 12 (k := l2.toNatClampNeg) (v := v7) rfl (fun _ => rfl) (inb_k g8).1 (inb_k g8).2 (by decide) dX12_laysCell_28 (fun H locs G => ?_)
      obtain ⟨S9, eS9, h⟩ := elet_some h
      rw [← eS9] at G
      clear eS9
      obtain ⟨v10, ev10, h⟩ := elet_some h
      refine lv_iinc (v := v10) (lv' := [(2, .int v10), (0, .ref (ad 0)), (1, .int l1)]) hx hb dX12_laysCell_29 hl (k := 2) rfl ev10.symm (by decide) rfl (fun ls hl => ?_)
      refine lv_goto (tgt := 2) hx hb dX12_laysCell_32 (by decide) ?_
      have hl := lv_sub hl [1, 2, 0] rfl
      exact ih _ _ _ _ _ _ h G hl
def fr_laysCell (S : MS) (a0 : Int32) : Option (MS) := fr_laysCell_b2 16384 S a0 0
set_option maxHeartbeats 4000000 in
set_option maxRecDepth 100000 in
theorem tr_laysCell (l : Launch) (D : va_G) (cI cJ cZ : ClassId) (ad : Nat → Nat) (S : MS) (a0 : Int32) {S1 : MS} (h : fr_laysCell S a0 = some S1) : mCv l yX12_laysCell (Cond.code yX12_laysCell cX12_laysCell 3 none :: wsM) 1 0 D cI cJ cZ ad S [.int a0] (fun S9 => S9 = S1) := by
  intro sz
  refine pro_in (cc := cX12_laysCell) (maxL := 3) (ret := none) (by exact pn_RX12) rfl (by exact Nat.le_of_ble_eq_true rfl) (fun p e s m below meth c ls hx hb hr hts hown hlocks hml hv hl => ?_)
  obtain ⟨hsz, hP, hK, hD0, hR⟩ := hv
  subst hsz
  have hD := hD0.self (sz := s.heap.size)
  generalize hAe : va_A (MW cI cJ cZ ad S) s.heap.size = A at hD ⊢
  have hA : ∀ q : Nat, s.heap.size ≤ q → A q := fun q h => by rw [← hAe]; exact Or.inr h
  have G : mG D cI cJ cZ ad A s.heap s.heap [] S := ⟨hP, hD, va_S.rf⟩
  have E : mE p c cX12_laysCell s m ([.ref (ad 0), .int a0] : List Value).toArray (Cond.code yX12_laysCell cX12_laysCell 3 none :: wsM) D cI cJ cZ := ⟨hx, hb, hts, hown, hK, fun w h => .tail _ (iM_x h)⟩
  have hl : lv_has ls 3 [(0, .ref (ad 0)), (1, .int a0)] := hl
  unfold fr_laysCell at h
  refine lv_iconst (v := 0) hx hb dX12_laysCell_0 (by decide) ?_
  refine lv_istore_n (lv' := [(2, .int 0), (0, .ref (ad 0)), (1, .int a0)]) hx hb dX12_laysCell_1 rfl hl (by decide) rfl (fun ls hl => ?_)
  have hl := lv_sub hl [1, 2, 0] rfl
  exact tr_laysCell_b2 E hA hR hml (fun H locs ls G => W.vret hx hb hr (fun t ht hW => ⟨⟨S1, rfl, rfl, ⟨by rw [ht]; exact G.1, va_K.moved hW.alike hK, G.2.1⟩⟩, G.2.2.F ht⟩) G.2.2.2.2 dX12_laysCell_35) _ _ _ _ _ _ _ h G hl
def fr_laysPoint_b2  : Nat → MS → Int32 → Int32 → Int32 → Option (MS)
  | 0, _, _, _, _ => none
  | n + 1, S, l1, l2, l3 => elet (S.2.1 10 4) fun v2 => if v2 ≤ l3 then (some S) else (obind2 (fr_delayFrom S l3 l1 l2) fun r7 S4 => oif (inb l3 12 = true) <| elet (mf S4 24 (upd (S4.2.1 24) l3.toNatClampNeg r7)) fun S9 => elet (l3 + Int32.ofInt (1)) fun v10 => fr_laysPoint_b2 n S9 l1 l2 v10)
set_option maxHeartbeats 4000000 in
set_option maxRecDepth 100000 in
theorem tr_laysPoint_b2 {p : Program} {l : Launch} {e : Env} {s : State} {m : MethodId} {args : Array Value} {below : List Frame} {meth : Method} {c : Code} {Q : State → Prop} {D : va_G} {A : Nat → Prop} {H0 : Heap} {cI cJ cZ : ClassId} {ad : Nat → Nat} {S1 : MS} (E : mE p c cX12_laysPoint s m args (Cond.code yX12_laysPoint cX12_laysPoint 4 none :: wsM) D cI cJ cZ) (hA : ∀ q : Nat, H0.size ≤ q → A q) (hR : sR s) (hml : c.maxLocals = 4) (kr31 : ∀ (H : Heap) (locs : List Loc) (ls : Array Slot), mG D cI cJ cZ ad A H0 H locs S1 → W p l e { frames := 3, cells := 0, slots := 0, locals := 50 } s m args below meth c H locs 0 0 Q (F0 m 31 ls [])) : ∀ n : Nat, ∀ (S : MS) (H : Heap) (locs : List Loc) (ls : Array Slot) (l1 : Int32) (l2 : Int32) (l3 : Int32), fr_laysPoint_b2 n S l1 l2 l3 = some S1 → mG D cI cJ cZ ad A H0 H locs S → lv_has ls 4 [(0, .ref (ad 0)), (1, .int l1), (2, .int l2), (3, .int l3)] → W p l e { frames := 3, cells := 0, slots := 0, locals := 50 } s m args below meth c H locs 0 0 Q (F0 m 2 ls []) := by
  have hx := E.1
  have hb := E.2.1
  have hts := E.2.2.1
  have hown := E.2.2.2.1
  have hK := E.2.2.2.2.1
  intro n
  induction n with
  | zero =>
    intro S H locs ls l1 l2 l3 h
    have h : (none : Option (MS)) = some S1 := h
    cases h
  | succ n ih =>
    intro S H locs ls l1 l2 l3 h G hl
    unfold fr_laysPoint_b2 at h
    refine lv_iload_n hx hb dX12_laysPoint_2 rfl (lv_at hl 3 rfl) ?_
    refine lv_aload_n hx hb dX12_laysPoint_3 rfl (lv_at hl 0 rfl) ?_
    refine m_get E G 10 (v := .ref (ad 10)) (by decide) (.tail _ qM_7) rfl dX12_laysPoint_4 rfl ?_
    refine lv_iconst (v := 4) hx hb dX12_laysPoint_7 (by decide) ?_
    refine m_iald E G 10 2 (n := 131) (k := 4) rfl rfl (by decide) (by decide) dX12_laysPoint_8 ?_
    refine lv_topi (fun v2 ev2 => ?_)
    have h := elet_at ev2 h
    clear ev2
    refine lv_icmp_ge (tgt := 31) hx hb dX12_laysPoint_9 (by decide) (fun c3 => ?_) (fun c3 => ?_)
    · have h := oif_pos c3 h
      rw [osome1 h] at G
      exact kr31 _ _ _ G
    · have h := oif_neg c3 h
      refine lv_aload_n hx hb dX12_laysPoint_12 rfl (lv_at hl 0 rfl) ?_
      refine m_get E G 24 (v := .ref (ad 24)) (by decide) (.tail _ qM_19) rfl dX12_laysPoint_13 rfl ?_
      refine lv_iload_n hx hb dX12_laysPoint_16 rfl (lv_at hl 3 rfl) ?_
      refine lv_aload_n hx hb dX12_laysPoint_17 rfl (lv_at hl 0 rfl) ?_
      refine lv_iload_n hx hb dX12_laysPoint_18 rfl (lv_at hl 3 rfl) ?_
      refine lv_iload_n hx hb dX12_laysPoint_19 rfl (lv_at hl 1 rfl) ?_
      refine lv_iload_n hx hb dX12_laysPoint_20 rfl (lv_at hl 2 rfl) ?_
      obtain ⟨r7, S4, eS4, h⟩ := obind2_some h
      refine m_calli (As := [.int l3, .int l1, .int l2]) (rest := [.int l3, .ref (ad 24)]) E G hA hR hml (tr_delayFrom l D cI cJ cZ ad S l3 l1 l2 eS4) (cwV 3 hts (gmV qM_212 qM_213 qM_214 qM_35 qM_215) rfl rfl rfl (by decide +kernel) ⟨Nat.le_of_ble_eq_true rfl, Nat.le_of_ble_eq_true rfl⟩) rfl hl.1 rfl (lv_room (Nat.le_of_ble_eq_true rfl)) dX12_laysPoint_21 ⟨Nat.zero_le _, Nat.zero_le _⟩ (fun q5 S6 H locs hq G => ?_)
      obtain ⟨hq1, hq2⟩ := hq
      rw [hq2] at G
      refine lv_to hq1 ?_
      clear hq1 hq2 eS4
      obtain ⟨g8, h⟩ := oif_some h
      refine m_iast E G 24 12 (k := l3.toNatClampNeg) (v := r7) rfl (fun _ => rfl) (inb_k g8).1 (inb_k g8).2 (by decide) dX12_laysPoint_24 (fun H locs G => ?_)
      obtain ⟨S9, eS9, h⟩ := elet_some h
      rw [← eS9] at G
      clear eS9
      obtain ⟨v10, ev10, h⟩ := elet_some h
      refine lv_iinc (v := v10) (lv' := [(3, .int v10), (0, .ref (ad 0)), (1, .int l1), (2, .int l2)]) hx hb dX12_laysPoint_25 hl (k := 3) rfl ev10.symm (by decide) rfl (fun ls hl => ?_)
      refine lv_goto (tgt := 2) hx hb dX12_laysPoint_28 (by decide) ?_
      have hl := lv_sub hl [1, 2, 3, 0] rfl
      exact ih _ _ _ _ _ _ _ h G hl
def fr_laysPoint (S : MS) (a0 : Int32) (a1 : Int32) : Option (MS) := fr_laysPoint_b2 16384 S a0 a1 0
set_option maxHeartbeats 4000000 in
set_option maxRecDepth 100000 in
theorem tr_laysPoint (l : Launch) (D : va_G) (cI cJ cZ : ClassId) (ad : Nat → Nat) (S : MS) (a0 : Int32) (a1 : Int32) {S1 : MS} (h : fr_laysPoint S a0 a1 = some S1) : mCv l yX12_laysPoint (Cond.code yX12_laysPoint cX12_laysPoint 4 none :: wsM) 3 50 D cI cJ cZ ad S [.int a0, .int a1] (fun S9 => S9 = S1) := by
  intro sz
  refine pro_in (cc := cX12_laysPoint) (maxL := 4) (ret := none) (by exact pn_RX12) rfl (by exact Nat.le_of_ble_eq_true rfl) (fun p e s m below meth c ls hx hb hr hts hown hlocks hml hv hl => ?_)
  obtain ⟨hsz, hP, hK, hD0, hR⟩ := hv
  subst hsz
  have hD := hD0.self (sz := s.heap.size)
  generalize hAe : va_A (MW cI cJ cZ ad S) s.heap.size = A at hD ⊢
  have hA : ∀ q : Nat, s.heap.size ≤ q → A q := fun q h => by rw [← hAe]; exact Or.inr h
  have G : mG D cI cJ cZ ad A s.heap s.heap [] S := ⟨hP, hD, va_S.rf⟩
  have E : mE p c cX12_laysPoint s m ([.ref (ad 0), .int a0, .int a1] : List Value).toArray (Cond.code yX12_laysPoint cX12_laysPoint 4 none :: wsM) D cI cJ cZ := ⟨hx, hb, hts, hown, hK, fun w h => .tail _ (iM_x h)⟩
  have hl : lv_has ls 4 [(0, .ref (ad 0)), (1, .int a0), (2, .int a1)] := hl
  unfold fr_laysPoint at h
  refine lv_iconst (v := 0) hx hb dX12_laysPoint_0 (by decide) ?_
  refine lv_istore_n (lv' := [(3, .int 0), (0, .ref (ad 0)), (1, .int a0), (2, .int a1)]) hx hb dX12_laysPoint_1 rfl hl (by decide) rfl (fun ls hl => ?_)
  have hl := lv_sub hl [1, 2, 3, 0] rfl
  exact tr_laysPoint_b2 E hA hR hml (fun H locs ls G => W.vret hx hb hr (fun t ht hW => ⟨⟨S1, rfl, rfl, ⟨by rw [ht]; exact G.1, va_K.moved hW.alike hK, G.2.1⟩⟩, G.2.2.F ht⟩) G.2.2.2.2 dX12_laysPoint_31) _ _ _ _ _ _ _ _ h G hl
def fr_mayAsk_b36  (S : MS) (s0 : Int32) : Option (Int32 × MS) := oif (s0 = 0 ∨ s0 = 1) <| some (s0, S)
set_option maxHeartbeats 4000000 in
set_option maxRecDepth 100000 in
theorem tr_mayAsk_b36 {p : Program} {l : Launch} {e : Env} {s : State} {m : MethodId} {args : Array Value} {below : List Frame} {meth : Method} {c : Code} {Q : State → Prop} {D : va_G} {A : Nat → Prop} {H0 : Heap} {cI cJ cZ : ClassId} {ad : Nat → Nat} {r1 : Int32} {S1 : MS} (E : mE p c cX12_mayAsk s m args (Cond.code yX12_mayAsk cX12_mayAsk 2 (some .boolean) :: wsM) D cI cJ cZ) (hA : ∀ q : Nat, H0.size ≤ q → A q) (hR : sR s) (hml : c.maxLocals = 2) (kr36 : ∀ (H : Heap) (locs : List Loc) (ls : Array Slot), (r1 = 0 ∨ r1 = 1) → mG D cI cJ cZ ad A H0 H locs S1 → W p l e { frames := 1, cells := 0, slots := 0, locals := 0 } s m args below meth c H locs 0 0 Q (F0 m 36 ls [.int r1])) : ∀ (S : MS) (H : Heap) (locs : List Loc) (ls : Array Slot) (s0 : Int32), fr_mayAsk_b36 S s0 = some (r1, S1) → mG D cI cJ cZ ad A H0 H locs S → lv_has ls 2 [] → W p l e { frames := 1, cells := 0, slots := 0, locals := 0 } s m args below meth c H locs 0 0 Q (F0 m 36 ls [.int s0]) := by
  have hx := E.1
  have hb := E.2.1
  have hts := E.2.2.1
  have hown := E.2.2.2.1
  have hK := E.2.2.2.2.1
  intro S H locs ls s0 h G hl
  unfold fr_mayAsk_b36 at h
  obtain ⟨gz, h⟩ := oif_some h
  have gr : r1 = 0 ∨ r1 = 1 := by rw [← (osome2 h).1]; exact gz
  rw [(osome2 h).2] at G
  refine lv_to (osome2 h).1 ?_
  exact kr36 _ _ _ gr G
def fr_mayAsk_b21  (S : MS) (s0 : Int32) : Option (Int32 × MS) := elet (mi S 0 s0) fun S2 => elet (S2.1 0) fun v3 => if v3 = 0 then (fr_mayAsk_b36 S2 1) else (fr_mayAsk_b36 S2 0)
set_option maxHeartbeats 4000000 in
set_option maxRecDepth 100000 in
theorem tr_mayAsk_b21 {p : Program} {l : Launch} {e : Env} {s : State} {m : MethodId} {args : Array Value} {below : List Frame} {meth : Method} {c : Code} {Q : State → Prop} {D : va_G} {A : Nat → Prop} {H0 : Heap} {cI cJ cZ : ClassId} {ad : Nat → Nat} {r1 : Int32} {S1 : MS} (E : mE p c cX12_mayAsk s m args (Cond.code yX12_mayAsk cX12_mayAsk 2 (some .boolean) :: wsM) D cI cJ cZ) (hA : ∀ q : Nat, H0.size ≤ q → A q) (hR : sR s) (hml : c.maxLocals = 2) (kr36 : ∀ (H : Heap) (locs : List Loc) (ls : Array Slot), (r1 = 0 ∨ r1 = 1) → mG D cI cJ cZ ad A H0 H locs S1 → W p l e { frames := 1, cells := 0, slots := 0, locals := 0 } s m args below meth c H locs 0 0 Q (F0 m 36 ls [.int r1])) : ∀ (S : MS) (H : Heap) (locs : List Loc) (ls : Array Slot) (s0 : Int32), fr_mayAsk_b21 S s0 = some (r1, S1) → mG D cI cJ cZ ad A H0 H locs S → lv_has ls 2 [(0, .ref (ad 0))] → W p l e { frames := 1, cells := 0, slots := 0, locals := 0 } s m args below meth c H locs 0 0 Q (F0 m 21 ls [.int s0, .ref (ad 0)]) := by
  have hx := E.1
  have hb := E.2.1
  have hts := E.2.2.1
  have hown := E.2.2.2.1
  have hK := E.2.2.2.2.1
  intro S H locs ls s0 h G hl
  unfold fr_mayAsk_b21 at h
  refine m_put E G 0 (by decide) (.tail _ qM_26) (mw_i0 _ _ _ _ _ s0) dX12_mayAsk_21 ⟨rfl, rfl, rfl⟩ rfl rfl (fun H locs G => ?_)
  obtain ⟨S2, eS2, h⟩ := elet_some h
  rw [← eS2] at G
  clear eS2
  refine lv_aload_n hx hb dX12_mayAsk_24 rfl (lv_at hl 0 rfl) ?_
  refine m_get E G 0 (v := .int (S2.1 0)) (by decide) (.tail _ qM_26) rfl dX12_mayAsk_25 rfl ?_
  refine lv_topi (fun v3 ev3 => ?_)
  have h := elet_at ev3 h
  clear ev3
  refine lv_if_ne (tgt := 35) hx hb dX12_mayAsk_28 (by decide) (fun c4 => ?_) (fun c4 => ?_)
  · have h := oif_neg c4 h
    refine lv_iconst (v := 0) hx hb dX12_mayAsk_35 (by decide) ?_
    have hl := lv_sub hl [] rfl
    exact tr_mayAsk_b36 E hA hR hml kr36 _ _ _ _ _ h G hl
  · have h := oif_pos c4 h
    refine lv_iconst (v := 1) hx hb dX12_mayAsk_31 (by decide) ?_
    refine lv_goto (tgt := 36) hx hb dX12_mayAsk_32 (by decide) ?_
    have hl := lv_sub hl [] rfl
    exact tr_mayAsk_b36 E hA hR hml kr36 _ _ _ _ _ h G hl
def fr_mayAsk (S : MS) (a0 : Int32) : Option (Int32 × MS) := elet (S.1 20) fun v2 => if v2 = 0 then (fr_mayAsk_b21 S 1) else (if a0 = 0 then (fr_mayAsk_b21 S 2) else (fr_mayAsk_b21 S 0))
set_option maxHeartbeats 4000000 in
set_option maxRecDepth 100000 in
theorem tr_mayAsk (l : Launch) (D : va_G) (cI cJ cZ : ClassId) (ad : Nat → Nat) (S : MS) (a0 : Int32) {r1 : Int32} {S1 : MS} (h : fr_mayAsk S a0 = some (r1, S1)) : mCi l yX12_mayAsk (Cond.code yX12_mayAsk cX12_mayAsk 2 (some .boolean) :: wsM) 1 0 D cI cJ cZ ad S [.int a0] (fun r S9 => r = r1 ∧ S9 = S1) := by
  intro sz
  refine pro_in (cc := cX12_mayAsk) (maxL := 2) (ret := (some .boolean)) (by exact pn_RX12) rfl (by exact Nat.le_of_ble_eq_true rfl) (fun p e s m below meth c ls hx hb hr hts hown hlocks hml hv hl => ?_)
  obtain ⟨hsz, hP, hK, hD0, hR⟩ := hv
  subst hsz
  have hD := hD0.self (sz := s.heap.size)
  generalize hAe : va_A (MW cI cJ cZ ad S) s.heap.size = A at hD ⊢
  have hA : ∀ q : Nat, s.heap.size ≤ q → A q := fun q h => by rw [← hAe]; exact Or.inr h
  have G : mG D cI cJ cZ ad A s.heap s.heap [] S := ⟨hP, hD, va_S.rf⟩
  have E : mE p c cX12_mayAsk s m ([.ref (ad 0), .int a0] : List Value).toArray (Cond.code yX12_mayAsk cX12_mayAsk 2 (some .boolean) :: wsM) D cI cJ cZ := ⟨hx, hb, hts, hown, hK, fun w h => .tail _ (iM_x h)⟩
  have hl : lv_has ls 2 [(0, .ref (ad 0)), (1, .int a0)] := hl
  unfold fr_mayAsk at h
  refine lv_aload_n hx hb dX12_mayAsk_0 rfl (lv_at hl 0 rfl) ?_
  refine lv_aload_n hx hb dX12_mayAsk_1 rfl (lv_at hl 0 rfl) ?_
  refine m_get E G 20 (v := .int (S.1 20)) (by decide) (.tail _ qM_193) rfl dX12_mayAsk_2 rfl ?_
  refine lv_topi (fun v2 ev2 => ?_)
  have h := elet_at ev2 h
  clear ev2
  refine lv_if_ne (tgt := 12) hx hb dX12_mayAsk_5 (by decide) (fun c3 => ?_) (fun c3 => ?_)
  · have h := oif_neg c3 h
    refine lv_iload_n hx hb dX12_mayAsk_12 rfl (lv_at hl 1 rfl) ?_
    refine lv_if_eq (tgt := 20) hx hb dX12_mayAsk_13 (by decide) (fun c4 => ?_) (fun c4 => ?_)
    · have h := oif_pos c4 h
      refine lv_iconst (v := 2) hx hb dX12_mayAsk_20 (by decide) ?_
      have hl := lv_sub hl [0] rfl
      exact tr_mayAsk_b21 E hA hR hml (fun H locs ls gz G => W.zret (v := r1) hx hb hr (nar01 gz) (fun t ht hW => ⟨⟨r1, S1, rfl, ⟨rfl, rfl⟩, ⟨by rw [ht]; exact G.1, va_K.moved hW.alike hK, G.2.1⟩⟩, G.2.2.F ht⟩) G.2.2.2.2 dX12_mayAsk_36) _ _ _ _ _ h G hl
    · have h := oif_neg c4 h
      refine lv_iconst (v := 0) hx hb dX12_mayAsk_16 (by decide) ?_
      refine lv_goto (tgt := 21) hx hb dX12_mayAsk_17 (by decide) ?_
      have hl := lv_sub hl [0] rfl
      exact tr_mayAsk_b21 E hA hR hml (fun H locs ls gz G => W.zret (v := r1) hx hb hr (nar01 gz) (fun t ht hW => ⟨⟨r1, S1, rfl, ⟨rfl, rfl⟩, ⟨by rw [ht]; exact G.1, va_K.moved hW.alike hK, G.2.1⟩⟩, G.2.2.F ht⟩) G.2.2.2.2 dX12_mayAsk_36) _ _ _ _ _ h G hl
  · have h := oif_pos c3 h
    refine lv_iconst (v := 1) hx hb dX12_mayAsk_8 (by decide) ?_
    refine lv_goto (tgt := 21) hx hb dX12_mayAsk_9 (by decide) ?_
    have hl := lv_sub hl [0] rfl
    exact tr_mayAsk_b21 E hA hR hml (fun H locs ls gz G => W.zret (v := r1) hx hb hr (nar01 gz) (fun t ht hW => ⟨⟨r1, S1, rfl, ⟨rfl, rfl⟩, ⟨by rw [ht]; exact G.1, va_K.moved hW.alike hK, G.2.1⟩⟩, G.2.2.F ht⟩) G.2.2.2.2 dX12_mayAsk_36) _ _ _ _ _ h G hl
def fr_told_b17  (S : MS) (s0 : Int32) : Option (Int32 × MS) := some (s0, S)
set_option maxHeartbeats 4000000 in
set_option maxRecDepth 100000 in
theorem tr_told_b17 {p : Program} {l : Launch} {e : Env} {s : State} {m : MethodId} {args : Array Value} {below : List Frame} {meth : Method} {c : Code} {Q : State → Prop} {D : va_G} {A : Nat → Prop} {H0 : Heap} {cI cJ cZ : ClassId} {ad : Nat → Nat} {r1 : Int32} {S1 : MS} (E : mE p c cX12_told s m args (Cond.code yX12_told cX12_told 2 (some .int) :: wsM) D cI cJ cZ) (hA : ∀ q : Nat, H0.size ≤ q → A q) (hR : sR s) (hml : c.maxLocals = 2) (kr17 : ∀ (H : Heap) (locs : List Loc) (ls : Array Slot), mG D cI cJ cZ ad A H0 H locs S1 → W p l e { frames := 1, cells := 0, slots := 0, locals := 0 } s m args below meth c H locs 0 0 Q (F0 m 17 ls [.int r1])) : ∀ (S : MS) (H : Heap) (locs : List Loc) (ls : Array Slot) (s0 : Int32), fr_told_b17 S s0 = some (r1, S1) → mG D cI cJ cZ ad A H0 H locs S → lv_has ls 2 [] → W p l e { frames := 1, cells := 0, slots := 0, locals := 0 } s m args below meth c H locs 0 0 Q (F0 m 17 ls [.int s0]) := by
  have hx := E.1
  have hb := E.2.1
  have hts := E.2.2.1
  have hown := E.2.2.2.1
  have hK := E.2.2.2.2.1
  intro S H locs ls s0 h G hl
  unfold fr_told_b17 at h
  rw [(osome2 h).2] at G
  refine lv_to (osome2 h).1 ?_
  exact kr17 _ _ _ G
def fr_told (S : MS) (a0 : Int32) : Option (Int32 × MS) := elet (mi S 0 0) fun S2 => elet (S2.1 20) fun v3 => if v3 = 0 then (fr_told_b17 S2 0) else (fr_told_b17 S2 a0)
set_option maxHeartbeats 4000000 in
set_option maxRecDepth 100000 in
theorem tr_told (l : Launch) (D : va_G) (cI cJ cZ : ClassId) (ad : Nat → Nat) (S : MS) (a0 : Int32) {r1 : Int32} {S1 : MS} (h : fr_told S a0 = some (r1, S1)) : mCi l yX12_told (Cond.code yX12_told cX12_told 2 (some .int) :: wsM) 1 0 D cI cJ cZ ad S [.int a0] (fun r S9 => r = r1 ∧ S9 = S1) := by
  intro sz
  refine pro_in (cc := cX12_told) (maxL := 2) (ret := (some .int)) (by exact pn_RX12) rfl (by exact Nat.le_of_ble_eq_true rfl) (fun p e s m below meth c ls hx hb hr hts hown hlocks hml hv hl => ?_)
  obtain ⟨hsz, hP, hK, hD0, hR⟩ := hv
  subst hsz
  have hD := hD0.self (sz := s.heap.size)
  generalize hAe : va_A (MW cI cJ cZ ad S) s.heap.size = A at hD ⊢
  have hA : ∀ q : Nat, s.heap.size ≤ q → A q := fun q h => by rw [← hAe]; exact Or.inr h
  have G : mG D cI cJ cZ ad A s.heap s.heap [] S := ⟨hP, hD, va_S.rf⟩
  have E : mE p c cX12_told s m ([.ref (ad 0), .int a0] : List Value).toArray (Cond.code yX12_told cX12_told 2 (some .int) :: wsM) D cI cJ cZ := ⟨hx, hb, hts, hown, hK, fun w h => .tail _ (iM_x h)⟩
  have hl : lv_has ls 2 [(0, .ref (ad 0)), (1, .int a0)] := hl
  unfold fr_told at h
  refine lv_aload_n hx hb dX12_told_0 rfl (lv_at hl 0 rfl) ?_
  refine lv_iconst (v := 0) hx hb dX12_told_1 (by decide) ?_
  refine m_put E G 0 (by decide) (.tail _ qM_26) (mw_i0 _ _ _ _ _ 0) dX12_told_2 ⟨rfl, rfl, rfl⟩ rfl rfl (fun H locs G => ?_)
  obtain ⟨S2, eS2, h⟩ := elet_some h
  rw [← eS2] at G
  clear eS2
  refine lv_aload_n hx hb dX12_told_5 rfl (lv_at hl 0 rfl) ?_
  refine m_get E G 20 (v := .int (S2.1 20)) (by decide) (.tail _ qM_193) rfl dX12_told_6 rfl ?_
  refine lv_topi (fun v3 ev3 => ?_)
  have h := elet_at ev3 h
  clear ev3
  refine lv_if_eq (tgt := 16) hx hb dX12_told_9 (by decide) (fun c4 => ?_) (fun c4 => ?_)
  · have h := oif_pos c4 h
    refine lv_iconst (v := 0) hx hb dX12_told_16 (by decide) ?_
    have hl := lv_sub hl [] rfl
    exact tr_told_b17 E hA hR hml (fun H locs ls G => W.iret (v := r1) hx hb hr (fun t ht hW => ⟨⟨r1, S1, rfl, ⟨rfl, rfl⟩, ⟨by rw [ht]; exact G.1, va_K.moved hW.alike hK, G.2.1⟩⟩, G.2.2.F ht⟩) G.2.2.2.2 dX12_told_17) _ _ _ _ _ h G hl
  · have h := oif_neg c4 h
    refine lv_iload_n hx hb dX12_told_12 rfl (lv_at hl 1 rfl) ?_
    refine lv_goto (tgt := 17) hx hb dX12_told_13 (by decide) ?_
    have hl := lv_sub hl [] rfl
    exact tr_told_b17 E hA hR hml (fun H locs ls G => W.iret (v := r1) hx hb hr (fun t ht hW => ⟨⟨r1, S1, rfl, ⟨rfl, rfl⟩, ⟨by rw [ht]; exact G.1, va_K.moved hW.alike hK, G.2.1⟩⟩, G.2.2.F ht⟩) G.2.2.2.2 dX12_told_17) _ _ _ _ _ h G hl
def fr_isMic (S : MS) (a0 : Int32) : Option (Int32 × MS) := elet (S.2.1 10 4) fun v2 => elet (v2 - 1) fun v3 => obind (fr_in a0 0 v3) fun r4 => oif (r4 = 0 ∨ r4 = 1) <| some (r4, S)
set_option maxHeartbeats 4000000 in
set_option maxRecDepth 100000 in
theorem tr_isMic (l : Launch) (D : va_G) (cI cJ cZ : ClassId) (ad : Nat → Nat) (S : MS) (a0 : Int32) {r1 : Int32} {S1 : MS} (h : fr_isMic S a0 = some (r1, S1)) : mCi l yX12_isMic (Cond.code yX12_isMic cX12_isMic 2 (some .boolean) :: wsM) 2 22 D cI cJ cZ ad S [.int a0] (fun r S9 => r = r1 ∧ S9 = S1) := by
  intro sz
  refine pro_in (cc := cX12_isMic) (maxL := 2) (ret := (some .boolean)) (by exact pn_RX12) rfl (by exact Nat.le_of_ble_eq_true rfl) (fun p e s m below meth c ls hx hb hr hts hown hlocks hml hv hl => ?_)
  obtain ⟨hsz, hP, hK, hD0, hR⟩ := hv
  subst hsz
  have hD := hD0.self (sz := s.heap.size)
  generalize hAe : va_A (MW cI cJ cZ ad S) s.heap.size = A at hD ⊢
  have hA : ∀ q : Nat, s.heap.size ≤ q → A q := fun q h => by rw [← hAe]; exact Or.inr h
  have G : mG D cI cJ cZ ad A s.heap s.heap [] S := ⟨hP, hD, va_S.rf⟩
  have E : mE p c cX12_isMic s m ([.ref (ad 0), .int a0] : List Value).toArray (Cond.code yX12_isMic cX12_isMic 2 (some .boolean) :: wsM) D cI cJ cZ := ⟨hx, hb, hts, hown, hK, fun w h => .tail _ (iM_x h)⟩
  have hl : lv_has ls 2 [(0, .ref (ad 0)), (1, .int a0)] := hl
  unfold fr_isMic at h
  refine lv_iload_n hx hb dX12_isMic_0 rfl (lv_at hl 1 rfl) ?_
  refine lv_iconst (v := 0) hx hb dX12_isMic_1 (by decide) ?_
  refine lv_aload_n hx hb dX12_isMic_2 rfl (lv_at hl 0 rfl) ?_
  refine m_get E G 10 (v := .ref (ad 10)) (by decide) (.tail _ qM_7) rfl dX12_isMic_3 rfl ?_
  refine lv_iconst (v := 4) hx hb dX12_isMic_6 (by decide) ?_
  refine m_iald E G 10 2 (n := 131) (k := 4) rfl rfl (by decide) (by decide) dX12_isMic_7 ?_
  refine lv_topi (fun v2 ev2 => ?_)
  have h := elet_at ev2 h
  clear ev2
  refine lv_iconst (v := 1) hx hb dX12_isMic_8 (by decide) ?_
  refine lv_isub hx hb dX12_isMic_9 ?_
  refine lv_topi (fun v3 ev3 => ?_)
  have h := elet_at ev3 h
  clear ev3
  obtain ⟨r4, er4, h⟩ := obind_some h
  refine m_stat (As := [.int a0, .int 0, .int v3]) (rest := []) ⟨hx, hb, hml, hown, hts⟩ (tr_in l a0 0 v3 er4) (cwS 3 hts (gmS qM_52 qM_53 qM_35 qM_27) rfl rfl rfl (by decide +kernel) ⟨Nat.le_of_ble_eq_true rfl, Nat.le_of_ble_eq_true rfl⟩) rfl hl.1 rfl (lv_room (Nat.le_of_ble_eq_true rfl)) dX12_isMic_10 ⟨Nat.zero_le _, Nat.zero_le _⟩ (fun q5 hq => ?_)
  refine lv_to hq ?_
  clear hq er4
  obtain ⟨gz, h⟩ := oif_some h
  exact W.zret (v := r4) hx hb hr (nar01 gz) (fun t ht hW => ⟨⟨r4, S, rfl, osome2 h, ⟨by rw [ht]; exact G.1, va_K.moved hW.alike hK, G.2.1⟩⟩, G.2.2.F ht⟩) G.2.2.2.2 dX12_isMic_13
def fr_isCell (S : MS) (a0 : Int32) : Option (Int32 × MS) := obind2 (fr_cellCount S) fun r5 S2 => elet (r5 - 1) fun v6 => obind (fr_in a0 0 v6) fun r7 => oif (r7 = 0 ∨ r7 = 1) <| some (r7, S2)
set_option maxHeartbeats 4000000 in
set_option maxRecDepth 100000 in
theorem tr_isCell (l : Launch) (D : va_G) (cI cJ cZ : ClassId) (ad : Nat → Nat) (S : MS) (a0 : Int32) {r1 : Int32} {S1 : MS} (h : fr_isCell S a0 = some (r1, S1)) : mCi l yX12_isCell (Cond.code yX12_isCell cX12_isCell 2 (some .boolean) :: wsM) 2 22 D cI cJ cZ ad S [.int a0] (fun r S9 => r = r1 ∧ S9 = S1) := by
  intro sz
  refine pro_in (cc := cX12_isCell) (maxL := 2) (ret := (some .boolean)) (by exact pn_RX12) rfl (by exact Nat.le_of_ble_eq_true rfl) (fun p e s m below meth c ls hx hb hr hts hown hlocks hml hv hl => ?_)
  obtain ⟨hsz, hP, hK, hD0, hR⟩ := hv
  subst hsz
  have hD := hD0.self (sz := s.heap.size)
  generalize hAe : va_A (MW cI cJ cZ ad S) s.heap.size = A at hD ⊢
  have hA : ∀ q : Nat, s.heap.size ≤ q → A q := fun q h => by rw [← hAe]; exact Or.inr h
  have G : mG D cI cJ cZ ad A s.heap s.heap [] S := ⟨hP, hD, va_S.rf⟩
  have E : mE p c cX12_isCell s m ([.ref (ad 0), .int a0] : List Value).toArray (Cond.code yX12_isCell cX12_isCell 2 (some .boolean) :: wsM) D cI cJ cZ := ⟨hx, hb, hts, hown, hK, fun w h => .tail _ (iM_x h)⟩
  have hl : lv_has ls 2 [(0, .ref (ad 0)), (1, .int a0)] := hl
  unfold fr_isCell at h
  refine lv_iload_n hx hb dX12_isCell_0 rfl (lv_at hl 1 rfl) ?_
  refine lv_iconst (v := 0) hx hb dX12_isCell_1 (by decide) ?_
  refine lv_aload_n hx hb dX12_isCell_2 rfl (lv_at hl 0 rfl) ?_
  obtain ⟨r5, S2, eS2, h⟩ := obind2_some h
  refine m_calli (As := []) (rest := [.int 0, .int a0]) E G hA hR hml (tr_cellCount l D cI cJ cZ ad S eS2) (cwV 0 hts (gmV qM_204 qM_205 qM_206 qM_35 qM_207) rfl rfl rfl (by decide +kernel) ⟨Nat.le_of_ble_eq_true rfl, Nat.le_of_ble_eq_true rfl⟩) rfl hl.1 rfl (lv_room (Nat.le_of_ble_eq_true rfl)) dX12_isCell_3 ⟨Nat.zero_le _, Nat.zero_le _⟩ (fun q3 S4 H locs hq G => ?_)
  obtain ⟨hq1, hq2⟩ := hq
  rw [hq2] at G
  refine lv_to hq1 ?_
  clear hq1 hq2 eS2
  refine lv_iconst (v := 1) hx hb dX12_isCell_6 (by decide) ?_
  refine lv_isub hx hb dX12_isCell_7 ?_
  refine lv_topi (fun v6 ev6 => ?_)
  have h := elet_at ev6 h
  clear ev6
  obtain ⟨r7, er7, h⟩ := obind_some h
  refine m_stat (As := [.int a0, .int 0, .int v6]) (rest := []) ⟨hx, hb, hml, hown, hts⟩ (tr_in l a0 0 v6 er7) (cwS 3 hts (gmS qM_52 qM_53 qM_35 qM_27) rfl rfl rfl (by decide +kernel) ⟨Nat.le_of_ble_eq_true rfl, Nat.le_of_ble_eq_true rfl⟩) rfl hl.1 rfl (lv_room (Nat.le_of_ble_eq_true rfl)) dX12_isCell_8 ⟨Nat.zero_le _, Nat.zero_le _⟩ (fun q8 hq => ?_)
  refine lv_to hq ?_
  clear hq er7
  obtain ⟨gz, h⟩ := oif_some h
  exact W.zret (v := r7) hx hb hr (nar01 gz) (fun t ht hW => ⟨⟨r7, S2, rfl, osome2 h, ⟨by rw [ht]; exact G.1, va_K.moved hW.alike hK, G.2.1⟩⟩, G.2.2.F ht⟩) G.2.2.2.2 dX12_isCell_11
def fr_isSource (S : MS) (a0 : Int32) : Option (Int32 × MS) := elet (S.2.1 10 5) fun v2 => elet (v2 - 1) fun v3 => obind (fr_in a0 0 v3) fun r4 => oif (r4 = 0 ∨ r4 = 1) <| some (r4, S)
set_option maxHeartbeats 4000000 in
set_option maxRecDepth 100000 in
theorem tr_isSource (l : Launch) (D : va_G) (cI cJ cZ : ClassId) (ad : Nat → Nat) (S : MS) (a0 : Int32) {r1 : Int32} {S1 : MS} (h : fr_isSource S a0 = some (r1, S1)) : mCi l yX12_isSource (Cond.code yX12_isSource cX12_isSource 2 (some .boolean) :: wsM) 2 22 D cI cJ cZ ad S [.int a0] (fun r S9 => r = r1 ∧ S9 = S1) := by
  intro sz
  refine pro_in (cc := cX12_isSource) (maxL := 2) (ret := (some .boolean)) (by exact pn_RX12) rfl (by exact Nat.le_of_ble_eq_true rfl) (fun p e s m below meth c ls hx hb hr hts hown hlocks hml hv hl => ?_)
  obtain ⟨hsz, hP, hK, hD0, hR⟩ := hv
  subst hsz
  have hD := hD0.self (sz := s.heap.size)
  generalize hAe : va_A (MW cI cJ cZ ad S) s.heap.size = A at hD ⊢
  have hA : ∀ q : Nat, s.heap.size ≤ q → A q := fun q h => by rw [← hAe]; exact Or.inr h
  have G : mG D cI cJ cZ ad A s.heap s.heap [] S := ⟨hP, hD, va_S.rf⟩
  have E : mE p c cX12_isSource s m ([.ref (ad 0), .int a0] : List Value).toArray (Cond.code yX12_isSource cX12_isSource 2 (some .boolean) :: wsM) D cI cJ cZ := ⟨hx, hb, hts, hown, hK, fun w h => .tail _ (iM_x h)⟩
  have hl : lv_has ls 2 [(0, .ref (ad 0)), (1, .int a0)] := hl
  unfold fr_isSource at h
  refine lv_iload_n hx hb dX12_isSource_0 rfl (lv_at hl 1 rfl) ?_
  refine lv_iconst (v := 0) hx hb dX12_isSource_1 (by decide) ?_
  refine lv_aload_n hx hb dX12_isSource_2 rfl (lv_at hl 0 rfl) ?_
  refine m_get E G 10 (v := .ref (ad 10)) (by decide) (.tail _ qM_7) rfl dX12_isSource_3 rfl ?_
  refine lv_iconst (v := 5) hx hb dX12_isSource_6 (by decide) ?_
  refine m_iald E G 10 2 (n := 131) (k := 5) rfl rfl (by decide) (by decide) dX12_isSource_7 ?_
  refine lv_topi (fun v2 ev2 => ?_)
  have h := elet_at ev2 h
  clear ev2
  refine lv_iconst (v := 1) hx hb dX12_isSource_8 (by decide) ?_
  refine lv_isub hx hb dX12_isSource_9 ?_
  refine lv_topi (fun v3 ev3 => ?_)
  have h := elet_at ev3 h
  clear ev3
  obtain ⟨r4, er4, h⟩ := obind_some h
  refine m_stat (As := [.int a0, .int 0, .int v3]) (rest := []) ⟨hx, hb, hml, hown, hts⟩ (tr_in l a0 0 v3 er4) (cwS 3 hts (gmS qM_52 qM_53 qM_35 qM_27) rfl rfl rfl (by decide +kernel) ⟨Nat.le_of_ble_eq_true rfl, Nat.le_of_ble_eq_true rfl⟩) rfl hl.1 rfl (lv_room (Nat.le_of_ble_eq_true rfl)) dX12_isSource_10 ⟨Nat.zero_le _, Nat.zero_le _⟩ (fun q5 hq => ?_)
  refine lv_to hq ?_
  clear hq er4
  obtain ⟨gz, h⟩ := oif_some h
  exact W.zret (v := r4) hx hb hr (nar01 gz) (fun t ht hW => ⟨⟨r4, S, rfl, osome2 h, ⟨by rw [ht]; exact G.1, va_K.moved hW.alike hK, G.2.1⟩⟩, G.2.2.F ht⟩) G.2.2.2.2 dX12_isSource_13
def fr_isTime (S : MS) (a0 : Int32) : Option (Int32 × MS) := elet (S.2.1 10 2) fun v2 => elet (v2 - 1) fun v3 => obind (fr_in a0 0 v3) fun r4 => oif (r4 = 0 ∨ r4 = 1) <| some (r4, S)
set_option maxHeartbeats 4000000 in
set_option maxRecDepth 100000 in
theorem tr_isTime (l : Launch) (D : va_G) (cI cJ cZ : ClassId) (ad : Nat → Nat) (S : MS) (a0 : Int32) {r1 : Int32} {S1 : MS} (h : fr_isTime S a0 = some (r1, S1)) : mCi l yX12_isTime (Cond.code yX12_isTime cX12_isTime 2 (some .boolean) :: wsM) 2 22 D cI cJ cZ ad S [.int a0] (fun r S9 => r = r1 ∧ S9 = S1) := by
  intro sz
  refine pro_in (cc := cX12_isTime) (maxL := 2) (ret := (some .boolean)) (by exact pn_RX12) rfl (by exact Nat.le_of_ble_eq_true rfl) (fun p e s m below meth c ls hx hb hr hts hown hlocks hml hv hl => ?_)
  obtain ⟨hsz, hP, hK, hD0, hR⟩ := hv
  subst hsz
  have hD := hD0.self (sz := s.heap.size)
  generalize hAe : va_A (MW cI cJ cZ ad S) s.heap.size = A at hD ⊢
  have hA : ∀ q : Nat, s.heap.size ≤ q → A q := fun q h => by rw [← hAe]; exact Or.inr h
  have G : mG D cI cJ cZ ad A s.heap s.heap [] S := ⟨hP, hD, va_S.rf⟩
  have E : mE p c cX12_isTime s m ([.ref (ad 0), .int a0] : List Value).toArray (Cond.code yX12_isTime cX12_isTime 2 (some .boolean) :: wsM) D cI cJ cZ := ⟨hx, hb, hts, hown, hK, fun w h => .tail _ (iM_x h)⟩
  have hl : lv_has ls 2 [(0, .ref (ad 0)), (1, .int a0)] := hl
  unfold fr_isTime at h
  refine lv_iload_n hx hb dX12_isTime_0 rfl (lv_at hl 1 rfl) ?_
  refine lv_iconst (v := 0) hx hb dX12_isTime_1 (by decide) ?_
  refine lv_aload_n hx hb dX12_isTime_2 rfl (lv_at hl 0 rfl) ?_
  refine m_get E G 10 (v := .ref (ad 10)) (by decide) (.tail _ qM_7) rfl dX12_isTime_3 rfl ?_
  refine lv_iconst (v := 2) hx hb dX12_isTime_6 (by decide) ?_
  refine m_iald E G 10 2 (n := 131) (k := 2) rfl rfl (by decide) (by decide) dX12_isTime_7 ?_
  refine lv_topi (fun v2 ev2 => ?_)
  have h := elet_at ev2 h
  clear ev2
  refine lv_iconst (v := 1) hx hb dX12_isTime_8 (by decide) ?_
  refine lv_isub hx hb dX12_isTime_9 ?_
  refine lv_topi (fun v3 ev3 => ?_)
  have h := elet_at ev3 h
  clear ev3
  obtain ⟨r4, er4, h⟩ := obind_some h
  refine m_stat (As := [.int a0, .int 0, .int v3]) (rest := []) ⟨hx, hb, hml, hown, hts⟩ (tr_in l a0 0 v3 er4) (cwS 3 hts (gmS qM_52 qM_53 qM_35 qM_27) rfl rfl rfl (by decide +kernel) ⟨Nat.le_of_ble_eq_true rfl, Nat.le_of_ble_eq_true rfl⟩) rfl hl.1 rfl (lv_room (Nat.le_of_ble_eq_true rfl)) dX12_isTime_10 ⟨Nat.zero_le _, Nat.zero_le _⟩ (fun q5 hq => ?_)
  refine lv_to hq ?_
  clear hq er4
  obtain ⟨gz, h⟩ := oif_some h
  exact W.zret (v := r4) hx hb hr (nar01 gz) (fun t ht hW => ⟨⟨r4, S, rfl, osome2 h, ⟨by rw [ht]; exact G.1, va_K.moved hW.alike hK, G.2.1⟩⟩, G.2.2.F ht⟩) G.2.2.2.2 dX12_isTime_13
def fr_isPeriod  (a0 : Int32) : Option (Int32) := obind (fr_in a0 2 99) fun r2 => oif (r2 = 0 ∨ r2 = 1) <| some r2
set_option maxHeartbeats 4000000 in
set_option maxRecDepth 100000 in
theorem tr_isPeriod (l : Launch) (a0 : Int32) {r1 : Int32} (h : fr_isPeriod a0 = some r1) : Met l yX12_isPeriod (Cond.code yX12_isPeriod cX12_isPeriod 1 (some .boolean) :: wsM) { frames := 2, cells := 0, slots := 0, locals := 22 } (va_Pc [.int a0] (fun _ => True)) (vp_Si (fun r => r = r1)) 0 0 (fun _ => False) := by
  refine pro_in (cc := cX12_isPeriod) (maxL := 1) (ret := (some .boolean)) (by exact pn_RX12) rfl (by exact Nat.le_of_ble_eq_true rfl) (fun p e s m below meth c ls hx hb hr hts hown hlocks hml hv hl => ?_)
  have E : p.tables.exec = Jvm.exec ∧ c.code = cX12_isPeriod ∧ (∀ w ∈ (Cond.code yX12_isPeriod cX12_isPeriod 1 (some .boolean) :: wsM), w.before ([.int a0] : List Value).toArray s = true) ∧ s.vm.findClass RX12 = some m.cls := ⟨hx, hb, hts, hown⟩
  have hl : lv_has ls 1 [(0, .int a0)] := hl
  unfold fr_isPeriod at h
  refine lv_iload_n hx hb dX12_isPeriod_0 rfl (lv_at hl 0 rfl) ?_
  refine lv_iconst (v := 2) hx hb dX12_isPeriod_1 (by decide) ?_
  refine lv_bipush (v := 99) hx hb dX12_isPeriod_2 (by decide) ?_
  obtain ⟨r2, er2, h⟩ := obind_some h
  refine m_stat (As := [.int a0, .int 2, .int 99]) (rest := []) ⟨hx, hb, hml, hown, hts⟩ (tr_in l a0 2 99 er2) (cwS 3 hts (gmS qM_52 qM_53 qM_35 qM_27) rfl rfl rfl (by decide +kernel) ⟨Nat.le_of_ble_eq_true rfl, Nat.le_of_ble_eq_true rfl⟩) rfl hl.1 rfl (lv_room (Nat.le_of_ble_eq_true rfl)) dX12_isPeriod_4 ⟨Nat.zero_le _, Nat.zero_le _⟩ (fun q3 hq => ?_)
  refine lv_to hq ?_
  clear hq er2
  obtain ⟨gz, h⟩ := oif_some h
  exact W.zret (v := r2) hx hb hr (nar01 gz) (fun t ht hW => ⟨r2, rfl, osome1 h, ht⟩) (fun _ h => absurd h List.not_mem_nil) dX12_isPeriod_7
def fr_mics (S : MS)  : Option (Int32 × MS) := elet (S.2.1 10 4) fun v2 => obind2 (fr_told S v2) fun r6 S3 => some (r6, S3)
set_option maxHeartbeats 4000000 in
set_option maxRecDepth 100000 in
theorem tr_mics (l : Launch) (D : va_G) (cI cJ cZ : ClassId) (ad : Nat → Nat) (S : MS)  {r1 : Int32} {S1 : MS} (h : fr_mics S = some (r1, S1)) : mCi l yX12_mics (Cond.code yX12_mics cX12_mics 1 (some .int) :: wsM) 2 21 D cI cJ cZ ad S [] (fun r S9 => r = r1 ∧ S9 = S1) := by
  intro sz
  refine pro_in (cc := cX12_mics) (maxL := 1) (ret := (some .int)) (by exact pn_RX12) rfl (by exact Nat.le_of_ble_eq_true rfl) (fun p e s m below meth c ls hx hb hr hts hown hlocks hml hv hl => ?_)
  obtain ⟨hsz, hP, hK, hD0, hR⟩ := hv
  subst hsz
  have hD := hD0.self (sz := s.heap.size)
  generalize hAe : va_A (MW cI cJ cZ ad S) s.heap.size = A at hD ⊢
  have hA : ∀ q : Nat, s.heap.size ≤ q → A q := fun q h => by rw [← hAe]; exact Or.inr h
  have G : mG D cI cJ cZ ad A s.heap s.heap [] S := ⟨hP, hD, va_S.rf⟩
  have E : mE p c cX12_mics s m ([.ref (ad 0)] : List Value).toArray (Cond.code yX12_mics cX12_mics 1 (some .int) :: wsM) D cI cJ cZ := ⟨hx, hb, hts, hown, hK, fun w h => .tail _ (iM_x h)⟩
  have hl : lv_has ls 1 [(0, .ref (ad 0))] := hl
  unfold fr_mics at h
  refine lv_aload_n hx hb dX12_mics_0 rfl (lv_at hl 0 rfl) ?_
  refine lv_aload_n hx hb dX12_mics_1 rfl (lv_at hl 0 rfl) ?_
  refine m_get E G 10 (v := .ref (ad 10)) (by decide) (.tail _ qM_7) rfl dX12_mics_2 rfl ?_
  refine lv_iconst (v := 4) hx hb dX12_mics_5 (by decide) ?_
  refine m_iald E G 10 2 (n := 131) (k := 4) rfl rfl (by decide) (by decide) dX12_mics_6 ?_
  refine lv_topi (fun v2 ev2 => ?_)
  have h := elet_at ev2 h
  clear ev2
  obtain ⟨r6, S3, eS3, h⟩ := obind2_some h
  refine m_calli (As := [.int v2]) (rest := []) E G hA hR hml (tr_told l D cI cJ cZ ad S v2 eS3) (cwV 1 hts (gmV qM_312 qM_313 qM_314 qM_35 qM_305) rfl rfl rfl (by decide +kernel) ⟨Nat.le_of_ble_eq_true rfl, Nat.le_of_ble_eq_true rfl⟩) rfl hl.1 rfl (lv_room (Nat.le_of_ble_eq_true rfl)) dX12_mics_7 ⟨Nat.zero_le _, Nat.zero_le _⟩ (fun q4 S5 H locs hq G => ?_)
  obtain ⟨hq1, hq2⟩ := hq
  rw [hq2] at G
  refine lv_to hq1 ?_
  clear hq1 hq2 eS3
  exact W.iret (v := r6) hx hb hr (fun t ht hW => ⟨⟨r6, S3, rfl, osome2 h, ⟨by rw [ht]; exact G.1, va_K.moved hW.alike hK, G.2.1⟩⟩, G.2.2.F ht⟩) G.2.2.2.2 dX12_mics_10
def fr_micAt (S : MS) (a0 : Int32) (a1 : Int32) : Option (Int32 × MS) := obind2 (fr_isMic S a0) fun r5 S2 => obind2 (fr_mayAsk S2 r5) fun r9 S6 => if r9 = 0 then (some (0, S6)) else (if a1 = 0 then (elet (11 + a0) fun v12 => oif (inb v12 131 = true) <| elet (S6.2.1 10 v12.toNatClampNeg) fun v14 => some (v14, S6)) else (if a1 = 1 then (elet (23 + a0) fun v16 => oif (inb v16 131 = true) <| elet (S6.2.1 10 v16.toNatClampNeg) fun v18 => some (v18, S6)) else (if a1 = 2 then (elet (35 + a0) fun v20 => oif (inb v20 131 = true) <| elet (S6.2.1 10 v20.toNatClampNeg) fun v22 => some (v22, S6)) else (if a1 = 3 then (elet (13 + a0) fun v24 => oif (inb v24 2455 = true) <| elet (S6.2.1 12 v24.toNatClampNeg) fun v26 => some (v26, S6)) else (obind2 (fr_throwsAt S6 3) fun r30 S27 => some (r30, S27))))))
set_option maxHeartbeats 4000000 in
set_option maxRecDepth 100000 in
theorem tr_micAt (l : Launch) (D : va_G) (cI cJ cZ : ClassId) (ad : Nat → Nat) (S : MS) (a0 : Int32) (a1 : Int32) {r1 : Int32} {S1 : MS} (h : fr_micAt S a0 a1 = some (r1, S1)) : mCi l yX12_micAt (Cond.code yX12_micAt cX12_micAt 3 (some .int) :: wsM) 3 43 D cI cJ cZ ad S [.int a0, .int a1] (fun r S9 => r = r1 ∧ S9 = S1) := by
  intro sz
  refine pro_in (cc := cX12_micAt) (maxL := 3) (ret := (some .int)) (by exact pn_RX12) rfl (by exact Nat.le_of_ble_eq_true rfl) (fun p e s m below meth c ls hx hb hr hts hown hlocks hml hv hl => ?_)
  obtain ⟨hsz, hP, hK, hD0, hR⟩ := hv
  subst hsz
  have hD := hD0.self (sz := s.heap.size)
  generalize hAe : va_A (MW cI cJ cZ ad S) s.heap.size = A at hD ⊢
  have hA : ∀ q : Nat, s.heap.size ≤ q → A q := fun q h => by rw [← hAe]; exact Or.inr h
  have G : mG D cI cJ cZ ad A s.heap s.heap [] S := ⟨hP, hD, va_S.rf⟩
  have E : mE p c cX12_micAt s m ([.ref (ad 0), .int a0, .int a1] : List Value).toArray (Cond.code yX12_micAt cX12_micAt 3 (some .int) :: wsM) D cI cJ cZ := ⟨hx, hb, hts, hown, hK, fun w h => .tail _ (iM_x h)⟩
  have hl : lv_has ls 3 [(0, .ref (ad 0)), (1, .int a0), (2, .int a1)] := hl
  unfold fr_micAt at h
  refine lv_aload_n hx hb dX12_micAt_0 rfl (lv_at hl 0 rfl) ?_
  refine lv_aload_n hx hb dX12_micAt_1 rfl (lv_at hl 0 rfl) ?_
  refine lv_iload_n hx hb dX12_micAt_2 rfl (lv_at hl 1 rfl) ?_
  obtain ⟨r5, S2, eS2, h⟩ := obind2_some h
  refine m_calli (As := [.int a0]) (rest := [.ref (ad 0)]) E G hA hR hml (tr_isMic l D cI cJ cZ ad S a0 eS2) (cwV 1 hts (gmV qM_316 qM_317 qM_318 qM_35 qM_306) rfl rfl rfl (by decide +kernel) ⟨Nat.le_of_ble_eq_true rfl, Nat.le_of_ble_eq_true rfl⟩) rfl hl.1 rfl (lv_room (Nat.le_of_ble_eq_true rfl)) dX12_micAt_3 ⟨Nat.zero_le _, Nat.zero_le _⟩ (fun q3 S4 H locs hq G => ?_)
  obtain ⟨hq1, hq2⟩ := hq
  rw [hq2] at G
  refine lv_to hq1 ?_
  clear hq1 hq2 eS2
  obtain ⟨r9, S6, eS6, h⟩ := obind2_some h
  refine m_calli (As := [.int r5]) (rest := []) E G hA hR hml (tr_mayAsk l D cI cJ cZ ad S2 r5 eS6) (cwV 1 hts (gmV qM_319 qM_320 qM_321 qM_35 qM_304) rfl rfl rfl (by decide +kernel) ⟨Nat.le_of_ble_eq_true rfl, Nat.le_of_ble_eq_true rfl⟩) rfl hl.1 rfl (lv_room (Nat.le_of_ble_eq_true rfl)) dX12_micAt_6 ⟨Nat.zero_le _, Nat.zero_le _⟩ (fun q7 S8 H locs hq G => ?_)
  obtain ⟨hq1, hq2⟩ := hq
  rw [hq2] at G
  refine lv_to hq1 ?_
  clear hq1 hq2 eS6
  refine lv_if_ne (tgt := 14) hx hb dX12_micAt_9 (by decide) (fun c10 => ?_) (fun c10 => ?_)
  · have h := oif_neg c10 h
    refine lv_iload_n hx hb dX12_micAt_14 rfl (lv_at hl 2 rfl) ?_
    by_cases c11 : a1 = 0
    · have h := oif_pos c11 h
      refine lv_tableIn (off := 29) (tgt := 44) hx hb dX12_micAt_15 (by rw [c11]; decide) (by rw [c11]; decide) (by rw [c11]; rfl) (by decide) ?_
      refine lv_aload_n hx hb dX12_micAt_44 rfl (lv_at hl 0 rfl) ?_
      refine m_get E G 10 (v := .ref (ad 10)) (by decide) (.tail _ qM_7) rfl dX12_micAt_45 rfl ?_
      refine lv_bipush (v := 11) hx hb dX12_micAt_48 (by decide) ?_
      refine lv_iload_n hx hb dX12_micAt_50 rfl (lv_at hl 1 rfl) ?_
      refine lv_iadd hx hb dX12_micAt_51 ?_
      refine lv_topi (fun v12 ev12 => ?_)
      have h := elet_at ev12 h
      clear ev12
      obtain ⟨g13, h⟩ := oif_some h
      refine m_iald E G 10 2 (n := 131) (k := v12.toNatClampNeg) rfl (inb_k g13).1 (inb_k g13).2 (by decide) dX12_micAt_52 ?_
      refine lv_topi (fun v14 ev14 => ?_)
      have h := elet_at ev14 h
      clear ev14
      exact W.iret (v := v14) hx hb hr (fun t ht hW => ⟨⟨v14, S6, rfl, osome2 h, ⟨by rw [ht]; exact G.1, va_K.moved hW.alike hK, G.2.1⟩⟩, G.2.2.F ht⟩) G.2.2.2.2 dX12_micAt_53
    have h := oif_neg c11 h
    by_cases c15 : a1 = 1
    · have h := oif_pos c15 h
      refine lv_tableIn (off := 39) (tgt := 54) hx hb dX12_micAt_15 (by rw [c15]; decide) (by rw [c15]; decide) (by rw [c15]; rfl) (by decide) ?_
      refine lv_aload_n hx hb dX12_micAt_54 rfl (lv_at hl 0 rfl) ?_
      refine m_get E G 10 (v := .ref (ad 10)) (by decide) (.tail _ qM_7) rfl dX12_micAt_55 rfl ?_
      refine lv_bipush (v := 23) hx hb dX12_micAt_58 (by decide) ?_
      refine lv_iload_n hx hb dX12_micAt_60 rfl (lv_at hl 1 rfl) ?_
      refine lv_iadd hx hb dX12_micAt_61 ?_
      refine lv_topi (fun v16 ev16 => ?_)
      have h := elet_at ev16 h
      clear ev16
      obtain ⟨g17, h⟩ := oif_some h
      refine m_iald E G 10 2 (n := 131) (k := v16.toNatClampNeg) rfl (inb_k g17).1 (inb_k g17).2 (by decide) dX12_micAt_62 ?_
      refine lv_topi (fun v18 ev18 => ?_)
      have h := elet_at ev18 h
      clear ev18
      exact W.iret (v := v18) hx hb hr (fun t ht hW => ⟨⟨v18, S6, rfl, osome2 h, ⟨by rw [ht]; exact G.1, va_K.moved hW.alike hK, G.2.1⟩⟩, G.2.2.F ht⟩) G.2.2.2.2 dX12_micAt_63
    have h := oif_neg c15 h
    by_cases c19 : a1 = 2
    · have h := oif_pos c19 h
      refine lv_tableIn (off := 49) (tgt := 64) hx hb dX12_micAt_15 (by rw [c19]; decide) (by rw [c19]; decide) (by rw [c19]; rfl) (by decide) ?_
      refine lv_aload_n hx hb dX12_micAt_64 rfl (lv_at hl 0 rfl) ?_
      refine m_get E G 10 (v := .ref (ad 10)) (by decide) (.tail _ qM_7) rfl dX12_micAt_65 rfl ?_
      refine lv_bipush (v := 35) hx hb dX12_micAt_68 (by decide) ?_
      refine lv_iload_n hx hb dX12_micAt_70 rfl (lv_at hl 1 rfl) ?_
      refine lv_iadd hx hb dX12_micAt_71 ?_
      refine lv_topi (fun v20 ev20 => ?_)
      have h := elet_at ev20 h
      clear ev20
      obtain ⟨g21, h⟩ := oif_some h
      refine m_iald E G 10 2 (n := 131) (k := v20.toNatClampNeg) rfl (inb_k g21).1 (inb_k g21).2 (by decide) dX12_micAt_72 ?_
      refine lv_topi (fun v22 ev22 => ?_)
      have h := elet_at ev22 h
      clear ev22
      exact W.iret (v := v22) hx hb hr (fun t ht hW => ⟨⟨v22, S6, rfl, osome2 h, ⟨by rw [ht]; exact G.1, va_K.moved hW.alike hK, G.2.1⟩⟩, G.2.2.F ht⟩) G.2.2.2.2 dX12_micAt_73
    have h := oif_neg c19 h
    by_cases c23 : a1 = 3
    · have h := oif_pos c23 h
      refine lv_tableIn (off := 59) (tgt := 74) hx hb dX12_micAt_15 (by rw [c23]; decide) (by rw [c23]; decide) (by rw [c23]; rfl) (by decide) ?_
      refine lv_aload_n hx hb dX12_micAt_74 rfl (lv_at hl 0 rfl) ?_
      refine m_get E G 12 (v := .ref (ad 12)) (by decide) (.tail _ qM_9) rfl dX12_micAt_75 rfl ?_
      refine lv_bipush (v := 13) hx hb dX12_micAt_78 (by decide) ?_
      refine lv_iload_n hx hb dX12_micAt_80 rfl (lv_at hl 1 rfl) ?_
      refine lv_iadd hx hb dX12_micAt_81 ?_
      refine lv_topi (fun v24 ev24 => ?_)
      have h := elet_at ev24 h
      clear ev24
      obtain ⟨g25, h⟩ := oif_some h
      refine m_iald E G 12 4 (n := 2455) (k := v24.toNatClampNeg) rfl (inb_k g25).1 (inb_k g25).2 (by decide) dX12_micAt_82 ?_
      refine lv_topi (fun v26 ev26 => ?_)
      have h := elet_at ev26 h
      clear ev26
      exact W.iret (v := v26) hx hb hr (fun t ht hW => ⟨⟨v26, S6, rfl, osome2 h, ⟨by rw [ht]; exact G.1, va_K.moved hW.alike hK, G.2.1⟩⟩, G.2.2.F ht⟩) G.2.2.2.2 dX12_micAt_83
    have h := oif_neg c23 h
    refine lv_tableOut (tgt := 84) hx hb dX12_micAt_15 (tsw_0_3 c11 c15 c19 c23) (by decide) ?_
    refine lv_aload_n hx hb dX12_micAt_84 rfl (lv_at hl 0 rfl) ?_
    refine lv_iconst (v := 3) hx hb dX12_micAt_85 (by decide) ?_
    obtain ⟨r30, S27, eS27, h⟩ := obind2_some h
    refine m_calli (As := [.int 3]) (rest := []) E G hA hR hml (tr_throwsAt l D cI cJ cZ ad S6 3 eS27) (cwV 1 hts (gmV qM_195 qM_196 qM_197 qM_35 qM_28) rfl rfl rfl (by decide +kernel) ⟨Nat.le_of_ble_eq_true rfl, Nat.le_of_ble_eq_true rfl⟩) rfl hl.1 rfl (lv_room (Nat.le_of_ble_eq_true rfl)) dX12_micAt_86 ⟨Nat.zero_le _, Nat.zero_le _⟩ (fun q28 S29 H locs hq G => ?_)
    obtain ⟨hq1, hq2⟩ := hq
    rw [hq2] at G
    refine lv_to hq1 ?_
    clear hq1 hq2 eS27
    exact W.iret (v := r30) hx hb hr (fun t ht hW => ⟨⟨r30, S27, rfl, osome2 h, ⟨by rw [ht]; exact G.1, va_K.moved hW.alike hK, G.2.1⟩⟩, G.2.2.F ht⟩) G.2.2.2.2 dX12_micAt_89
  · have h := oif_pos c10 h
    refine lv_iconst (v := 0) hx hb dX12_micAt_12 (by decide) ?_
    exact W.iret (v := 0) hx hb hr (fun t ht hW => ⟨⟨0, S6, rfl, osome2 h, ⟨by rw [ht]; exact G.1, va_K.moved hW.alike hK, G.2.1⟩⟩, G.2.2.F ht⟩) G.2.2.2.2 dX12_micAt_13
end
section
/-! 11f.dec4.lean.txt -/
def fr_hears_12_b13  (S : MS) (s0 : Int32) : Option (Int32 × MS) := oif (s0 = 0 ∨ s0 = 1) <| some (s0, S)
set_option maxHeartbeats 4000000 in
set_option maxRecDepth 100000 in
theorem tr_hears_12_b13 {p : Program} {l : Launch} {e : Env} {s : State} {m : MethodId} {args : Array Value} {below : List Frame} {meth : Method} {c : Code} {Q : State → Prop} {D : va_G} {A : Nat → Prop} {H0 : Heap} {cI cJ cZ : ClassId} {ad : Nat → Nat} {r1 : Int32} {S1 : MS} (E : mE p c cX12_hears s m args (Cond.code yX12_hears cX12_hears 3 (some .boolean) :: wsM) D cI cJ cZ) (hA : ∀ q : Nat, H0.size ≤ q → A q) (hR : sR s) (hml : c.maxLocals = 3) (kr13 : ∀ (H : Heap) (locs : List Loc) (ls : Array Slot), (r1 = 0 ∨ r1 = 1) → mG D cI cJ cZ ad A H0 H locs S1 → W p l e { frames := 1, cells := 0, slots := 0, locals := 0 } s m args below meth c H locs 0 0 Q (F0 m 13 ls [.int r1])) : ∀ (S : MS) (H : Heap) (locs : List Loc) (ls : Array Slot) (s0 : Int32), fr_hears_12_b13 S s0 = some (r1, S1) → mG D cI cJ cZ ad A H0 H locs S → lv_has ls 3 [] → W p l e { frames := 1, cells := 0, slots := 0, locals := 0 } s m args below meth c H locs 0 0 Q (F0 m 13 ls [.int s0]) := by
  have hx := E.1
  have hb := E.2.1
  have hts := E.2.2.1
  have hown := E.2.2.2.1
  have hK := E.2.2.2.2.1
  intro S H locs ls s0 h G hl
  unfold fr_hears_12_b13 at h
  obtain ⟨gz, h⟩ := oif_some h
  have gr : r1 = 0 ∨ r1 = 1 := by rw [← (osome2 h).1]; exact gz
  rw [(osome2 h).2] at G
  refine lv_to (osome2 h).1 ?_
  exact kr13 _ _ _ gr G
def fr_hears_12 (S : MS) (a1 : Int32) : Option (Int32 × MS) := elet (1 + a1) fun v2 => oif (inb v2 2455 = true) <| elet (S.2.1 12 v2.toNatClampNeg) fun v4 => if v4 = 0 then (fr_hears_12_b13 S 1) else (fr_hears_12_b13 S 0)
set_option maxHeartbeats 4000000 in
set_option maxRecDepth 100000 in
theorem tr_hears_12 (l : Launch) (D : va_G) (cI cJ cZ : ClassId) (ad : Nat → Nat) (S : MS) (a1 : Int32) {r1 : Int32} {S1 : MS} (h : fr_hears_12 S a1 = some (r1, S1)) : mCi l yX12_hears (Cond.code yX12_hears cX12_hears 3 (some .boolean) :: wsM) 1 0 D cI cJ cZ ad S [.ref (ad 12), .int a1] (fun r S9 => r = r1 ∧ S9 = S1) := by
  intro sz
  refine pro_in (cc := cX12_hears) (maxL := 3) (ret := (some .boolean)) (by exact pn_RX12) rfl (by exact Nat.le_of_ble_eq_true rfl) (fun p e s m below meth c ls hx hb hr hts hown hlocks hml hv hl => ?_)
  obtain ⟨hsz, hP, hK, hD0, hR⟩ := hv
  subst hsz
  have hD := hD0.self (sz := s.heap.size)
  generalize hAe : va_A (MW cI cJ cZ ad S) s.heap.size = A at hD ⊢
  have hA : ∀ q : Nat, s.heap.size ≤ q → A q := fun q h => by rw [← hAe]; exact Or.inr h
  have G : mG D cI cJ cZ ad A s.heap s.heap [] S := ⟨hP, hD, va_S.rf⟩
  have E : mE p c cX12_hears s m ([.ref (ad 0), .ref (ad 12), .int a1] : List Value).toArray (Cond.code yX12_hears cX12_hears 3 (some .boolean) :: wsM) D cI cJ cZ := ⟨hx, hb, hts, hown, hK, fun w h => .tail _ (iM_x h)⟩
  have hl : lv_has ls 3 [(0, .ref (ad 0)), (1, .ref (ad 12)), (2, .int a1)] := hl
  unfold fr_hears_12 at h
  refine lv_aload_n hx hb dX12_hears_0 rfl (lv_at hl 1 rfl) ?_
  refine lv_iconst (v := 1) hx hb dX12_hears_1 (by decide) ?_
  refine lv_iload_n hx hb dX12_hears_2 rfl (lv_at hl 2 rfl) ?_
  refine lv_iadd hx hb dX12_hears_3 ?_
  refine lv_topi (fun v2 ev2 => ?_)
  have h := elet_at ev2 h
  clear ev2
  obtain ⟨g3, h⟩ := oif_some h
  refine m_iald E G 12 4 (n := 2455) (k := v2.toNatClampNeg) rfl (inb_k g3).1 (inb_k g3).2 (by decide) dX12_hears_4 ?_
  refine lv_topi (fun v4 ev4 => ?_)
  have h := elet_at ev4 h
  clear ev4
  refine lv_if_ne (tgt := 12) hx hb dX12_hears_5 (by decide) (fun c5 => ?_) (fun c5 => ?_)
  · have h := oif_neg c5 h
    refine lv_iconst (v := 0) hx hb dX12_hears_12 (by decide) ?_
    have hl := lv_sub hl [] rfl
    exact tr_hears_12_b13 E hA hR hml (fun H locs ls gz G => W.zret (v := r1) hx hb hr (nar01 gz) (fun t ht hW => ⟨⟨r1, S1, rfl, ⟨rfl, rfl⟩, ⟨by rw [ht]; exact G.1, va_K.moved hW.alike hK, G.2.1⟩⟩, G.2.2.F ht⟩) G.2.2.2.2 dX12_hears_13) _ _ _ _ _ h G hl
  · have h := oif_pos c5 h
    refine lv_iconst (v := 1) hx hb dX12_hears_8 (by decide) ?_
    refine lv_goto (tgt := 13) hx hb dX12_hears_9 (by decide) ?_
    have hl := lv_sub hl [] rfl
    exact tr_hears_12_b13 E hA hR hml (fun H locs ls gz G => W.zret (v := r1) hx hb hr (nar01 gz) (fun t ht hW => ⟨⟨r1, S1, rfl, ⟨rfl, rfl⟩, ⟨by rw [ht]; exact G.1, va_K.moved hW.alike hK, G.2.1⟩⟩, G.2.2.F ht⟩) G.2.2.2.2 dX12_hears_13) _ _ _ _ _ h G hl
def fr_isMuted_b29  (S : MS) (s0 : Int32) : Option (Int32 × MS) := oif (s0 = 0 ∨ s0 = 1) <| some (s0, S)
set_option maxHeartbeats 4000000 in
set_option maxRecDepth 100000 in
theorem tr_isMuted_b29 {p : Program} {l : Launch} {e : Env} {s : State} {m : MethodId} {args : Array Value} {below : List Frame} {meth : Method} {c : Code} {Q : State → Prop} {D : va_G} {A : Nat → Prop} {H0 : Heap} {cI cJ cZ : ClassId} {ad : Nat → Nat} {r1 : Int32} {S1 : MS} (E : mE p c cX12_isMuted s m args (Cond.code yX12_isMuted cX12_isMuted 2 (some .boolean) :: wsM) D cI cJ cZ) (hA : ∀ q : Nat, H0.size ≤ q → A q) (hR : sR s) (hml : c.maxLocals = 2) (kr29 : ∀ (H : Heap) (locs : List Loc) (ls : Array Slot), (r1 = 0 ∨ r1 = 1) → mG D cI cJ cZ ad A H0 H locs S1 → W p l e { frames := 3, cells := 0, slots := 0, locals := 43 } s m args below meth c H locs 0 0 Q (F0 m 29 ls [.int r1])) : ∀ (S : MS) (H : Heap) (locs : List Loc) (ls : Array Slot) (s0 : Int32), fr_isMuted_b29 S s0 = some (r1, S1) → mG D cI cJ cZ ad A H0 H locs S → lv_has ls 2 [] → W p l e { frames := 3, cells := 0, slots := 0, locals := 43 } s m args below meth c H locs 0 0 Q (F0 m 29 ls [.int s0]) := by
  have hx := E.1
  have hb := E.2.1
  have hts := E.2.2.1
  have hown := E.2.2.2.1
  have hK := E.2.2.2.2.1
  intro S H locs ls s0 h G hl
  unfold fr_isMuted_b29 at h
  obtain ⟨gz, h⟩ := oif_some h
  have gr : r1 = 0 ∨ r1 = 1 := by rw [← (osome2 h).1]; exact gz
  rw [(osome2 h).2] at G
  refine lv_to (osome2 h).1 ?_
  exact kr29 _ _ _ gr G
def fr_isMuted_b28  (S : MS)  : Option (Int32 × MS) := fr_isMuted_b29 S 0
set_option maxHeartbeats 4000000 in
set_option maxRecDepth 100000 in
theorem tr_isMuted_b28 {p : Program} {l : Launch} {e : Env} {s : State} {m : MethodId} {args : Array Value} {below : List Frame} {meth : Method} {c : Code} {Q : State → Prop} {D : va_G} {A : Nat → Prop} {H0 : Heap} {cI cJ cZ : ClassId} {ad : Nat → Nat} {r1 : Int32} {S1 : MS} (E : mE p c cX12_isMuted s m args (Cond.code yX12_isMuted cX12_isMuted 2 (some .boolean) :: wsM) D cI cJ cZ) (hA : ∀ q : Nat, H0.size ≤ q → A q) (hR : sR s) (hml : c.maxLocals = 2) (kr29 : ∀ (H : Heap) (locs : List Loc) (ls : Array Slot), (r1 = 0 ∨ r1 = 1) → mG D cI cJ cZ ad A H0 H locs S1 → W p l e { frames := 3, cells := 0, slots := 0, locals := 43 } s m args below meth c H locs 0 0 Q (F0 m 29 ls [.int r1])) : ∀ (S : MS) (H : Heap) (locs : List Loc) (ls : Array Slot), fr_isMuted_b28 S = some (r1, S1) → mG D cI cJ cZ ad A H0 H locs S → lv_has ls 2 [] → W p l e { frames := 3, cells := 0, slots := 0, locals := 43 } s m args below meth c H locs 0 0 Q (F0 m 28 ls []) := by
  have hx := E.1
  have hb := E.2.1
  have hts := E.2.2.1
  have hown := E.2.2.2.1
  have hK := E.2.2.2.2.1
  intro S H locs ls h G hl
  unfold fr_isMuted_b28 at h
  refine lv_iconst (v := 0) hx hb dX12_isMuted_28 (by decide) ?_
  have hl := lv_sub hl [] rfl
  exact tr_isMuted_b29 E hA hR hml kr29 _ _ _ _ _ h G hl
def fr_isMuted (S : MS) (a0 : Int32) : Option (Int32 × MS) := obind2 (fr_isMic S a0) fun r5 S2 => obind2 (fr_mayAsk S2 r5) fun r9 S6 => if r9 = 0 then (fr_isMuted_b28 S6) else (obind2 (fr_hears_12 S6 a0) fun r14 S11 => if r14 = 0 then (fr_isMuted_b29 S11 1) else (fr_isMuted_b28 S11))
set_option maxHeartbeats 4000000 in
set_option maxRecDepth 100000 in
theorem tr_isMuted (l : Launch) (D : va_G) (cI cJ cZ : ClassId) (ad : Nat → Nat) (S : MS) (a0 : Int32) {r1 : Int32} {S1 : MS} (h : fr_isMuted S a0 = some (r1, S1)) : mCi l yX12_isMuted (Cond.code yX12_isMuted cX12_isMuted 2 (some .boolean) :: wsM) 3 43 D cI cJ cZ ad S [.int a0] (fun r S9 => r = r1 ∧ S9 = S1) := by
  intro sz
  refine pro_in (cc := cX12_isMuted) (maxL := 2) (ret := (some .boolean)) (by exact pn_RX12) rfl (by exact Nat.le_of_ble_eq_true rfl) (fun p e s m below meth c ls hx hb hr hts hown hlocks hml hv hl => ?_)
  obtain ⟨hsz, hP, hK, hD0, hR⟩ := hv
  subst hsz
  have hD := hD0.self (sz := s.heap.size)
  generalize hAe : va_A (MW cI cJ cZ ad S) s.heap.size = A at hD ⊢
  have hA : ∀ q : Nat, s.heap.size ≤ q → A q := fun q h => by rw [← hAe]; exact Or.inr h
  have G : mG D cI cJ cZ ad A s.heap s.heap [] S := ⟨hP, hD, va_S.rf⟩
  have E : mE p c cX12_isMuted s m ([.ref (ad 0), .int a0] : List Value).toArray (Cond.code yX12_isMuted cX12_isMuted 2 (some .boolean) :: wsM) D cI cJ cZ := ⟨hx, hb, hts, hown, hK, fun w h => .tail _ (iM_x h)⟩
  have hl : lv_has ls 2 [(0, .ref (ad 0)), (1, .int a0)] := hl
  unfold fr_isMuted at h
  refine lv_aload_n hx hb dX12_isMuted_0 rfl (lv_at hl 0 rfl) ?_
  refine lv_aload_n hx hb dX12_isMuted_1 rfl (lv_at hl 0 rfl) ?_
  refine lv_iload_n hx hb dX12_isMuted_2 rfl (lv_at hl 1 rfl) ?_
  obtain ⟨r5, S2, eS2, h⟩ := obind2_some h
  refine m_calli (As := [.int a0]) (rest := [.ref (ad 0)]) E G hA hR hml (tr_isMic l D cI cJ cZ ad S a0 eS2) (cwV 1 hts (gmV qM_316 qM_317 qM_318 qM_35 qM_306) rfl rfl rfl (by decide +kernel) ⟨Nat.le_of_ble_eq_true rfl, Nat.le_of_ble_eq_true rfl⟩) rfl hl.1 rfl (lv_room (Nat.le_of_ble_eq_true rfl)) dX12_isMuted_3 ⟨Nat.zero_le _, Nat.zero_le _⟩ (fun q3 S4 H locs hq G => ?_)
  obtain ⟨hq1, hq2⟩ := hq
  rw [hq2] at G
  refine lv_to hq1 ?_
  clear hq1 hq2 eS2
  obtain ⟨r9, S6, eS6, h⟩ := obind2_some h
  refine m_calli (As := [.int r5]) (rest := []) E G hA hR hml (tr_mayAsk l D cI cJ cZ ad S2 r5 eS6) (cwV 1 hts (gmV qM_319 qM_320 qM_321 qM_35 qM_304) rfl rfl rfl (by decide +kernel) ⟨Nat.le_of_ble_eq_true rfl, Nat.le_of_ble_eq_true rfl⟩) rfl hl.1 rfl (lv_room (Nat.le_of_ble_eq_true rfl)) dX12_isMuted_6 ⟨Nat.zero_le _, Nat.zero_le _⟩ (fun q7 S8 H locs hq G => ?_)
  obtain ⟨hq1, hq2⟩ := hq
  rw [hq2] at G
  refine lv_to hq1 ?_
  clear hq1 hq2 eS6
  refine lv_if_eq (tgt := 28) hx hb dX12_isMuted_9 (by decide) (fun c10 => ?_) (fun c10 => ?_)
  · have h := oif_pos c10 h
    have hl := lv_sub hl [] rfl
    exact tr_isMuted_b28 E hA hR hml (fun H locs ls gz G => W.zret (v := r1) hx hb hr (nar01 gz) (fun t ht hW => ⟨⟨r1, S1, rfl, ⟨rfl, rfl⟩, ⟨by rw [ht]; exact G.1, va_K.moved hW.alike hK, G.2.1⟩⟩, G.2.2.F ht⟩) G.2.2.2.2 dX12_isMuted_29) _ _ _ _ h G hl
  · have h := oif_neg c10 h
    refine lv_aload_n hx hb dX12_isMuted_12 rfl (lv_at hl 0 rfl) ?_
    refine lv_aload_n hx hb dX12_isMuted_13 rfl (lv_at hl 0 rfl) ?_
    refine m_get E G 12 (v := .ref (ad 12)) (by decide) (.tail _ qM_9) rfl dX12_isMuted_14 rfl ?_
    refine lv_iload_n hx hb dX12_isMuted_17 rfl (lv_at hl 1 rfl) ?_
    obtain ⟨r14, S11, eS11, h⟩ := obind2_some h
    refine m_calli (As := [.ref (ad 12), .int a0]) (rest := []) E G hA hR hml (tr_hears_12 l D cI cJ cZ ad S6 a0 eS11) (cwV 2 hts (gmV qM_274 qM_275 qM_276 qM_35 qM_272) rfl rfl rfl (by decide +kernel) ⟨Nat.le_of_ble_eq_true rfl, Nat.le_of_ble_eq_true rfl⟩) rfl hl.1 rfl (lv_room (Nat.le_of_ble_eq_true rfl)) dX12_isMuted_18 ⟨Nat.zero_le _, Nat.zero_le _⟩ (fun q12 S13 H locs hq G => ?_)
    obtain ⟨hq1, hq2⟩ := hq
    rw [hq2] at G
    refine lv_to hq1 ?_
    clear hq1 hq2 eS11
    refine lv_if_ne (tgt := 28) hx hb dX12_isMuted_21 (by decide) (fun c15 => ?_) (fun c15 => ?_)
    · have h := oif_neg c15 h
      have hl := lv_sub hl [] rfl
      exact tr_isMuted_b28 E hA hR hml (fun H locs ls gz G => W.zret (v := r1) hx hb hr (nar01 gz) (fun t ht hW => ⟨⟨r1, S1, rfl, ⟨rfl, rfl⟩, ⟨by rw [ht]; exact G.1, va_K.moved hW.alike hK, G.2.1⟩⟩, G.2.2.F ht⟩) G.2.2.2.2 dX12_isMuted_29) _ _ _ _ h G hl
    · have h := oif_pos c15 h
      refine lv_iconst (v := 1) hx hb dX12_isMuted_24 (by decide) ?_
      refine lv_goto (tgt := 29) hx hb dX12_isMuted_25 (by decide) ?_
      have hl := lv_sub hl [] rfl
      exact tr_isMuted_b29 E hA hR hml (fun H locs ls gz G => W.zret (v := r1) hx hb hr (nar01 gz) (fun t ht hW => ⟨⟨r1, S1, rfl, ⟨rfl, rfl⟩, ⟨by rw [ht]; exact G.1, va_K.moved hW.alike hK, G.2.1⟩⟩, G.2.2.F ht⟩) G.2.2.2.2 dX12_isMuted_29) _ _ _ _ _ h G hl
def fr_columns (S : MS)  : Option (Int32 × MS) := elet (S.2.1 10 9) fun v2 => obind2 (fr_told S v2) fun r6 S3 => some (r6, S3)
set_option maxHeartbeats 4000000 in
set_option maxRecDepth 100000 in
theorem tr_columns (l : Launch) (D : va_G) (cI cJ cZ : ClassId) (ad : Nat → Nat) (S : MS)  {r1 : Int32} {S1 : MS} (h : fr_columns S = some (r1, S1)) : mCi l yX12_columns (Cond.code yX12_columns cX12_columns 1 (some .int) :: wsM) 2 21 D cI cJ cZ ad S [] (fun r S9 => r = r1 ∧ S9 = S1) := by
  intro sz
  refine pro_in (cc := cX12_columns) (maxL := 1) (ret := (some .int)) (by exact pn_RX12) rfl (by exact Nat.le_of_ble_eq_true rfl) (fun p e s m below meth c ls hx hb hr hts hown hlocks hml hv hl => ?_)
  obtain ⟨hsz, hP, hK, hD0, hR⟩ := hv
  subst hsz
  have hD := hD0.self (sz := s.heap.size)
  generalize hAe : va_A (MW cI cJ cZ ad S) s.heap.size = A at hD ⊢
  have hA : ∀ q : Nat, s.heap.size ≤ q → A q := fun q h => by rw [← hAe]; exact Or.inr h
  have G : mG D cI cJ cZ ad A s.heap s.heap [] S := ⟨hP, hD, va_S.rf⟩
  have E : mE p c cX12_columns s m ([.ref (ad 0)] : List Value).toArray (Cond.code yX12_columns cX12_columns 1 (some .int) :: wsM) D cI cJ cZ := ⟨hx, hb, hts, hown, hK, fun w h => .tail _ (iM_x h)⟩
  have hl : lv_has ls 1 [(0, .ref (ad 0))] := hl
  unfold fr_columns at h
  refine lv_aload_n hx hb dX12_columns_0 rfl (lv_at hl 0 rfl) ?_
  refine lv_aload_n hx hb dX12_columns_1 rfl (lv_at hl 0 rfl) ?_
  refine m_get E G 10 (v := .ref (ad 10)) (by decide) (.tail _ qM_7) rfl dX12_columns_2 rfl ?_
  refine lv_bipush (v := 9) hx hb dX12_columns_5 (by decide) ?_
  refine m_iald E G 10 2 (n := 131) (k := 9) rfl rfl (by decide) (by decide) dX12_columns_7 ?_
  refine lv_topi (fun v2 ev2 => ?_)
  have h := elet_at ev2 h
  clear ev2
  obtain ⟨r6, S3, eS3, h⟩ := obind2_some h
  refine m_calli (As := [.int v2]) (rest := []) E G hA hR hml (tr_told l D cI cJ cZ ad S v2 eS3) (cwV 1 hts (gmV qM_312 qM_313 qM_314 qM_35 qM_305) rfl rfl rfl (by decide +kernel) ⟨Nat.le_of_ble_eq_true rfl, Nat.le_of_ble_eq_true rfl⟩) rfl hl.1 rfl (lv_room (Nat.le_of_ble_eq_true rfl)) dX12_columns_8 ⟨Nat.zero_le _, Nat.zero_le _⟩ (fun q4 S5 H locs hq G => ?_)
  obtain ⟨hq1, hq2⟩ := hq
  rw [hq2] at G
  refine lv_to hq1 ?_
  clear hq1 hq2 eS3
  exact W.iret (v := r6) hx hb hr (fun t ht hW => ⟨⟨r6, S3, rfl, osome2 h, ⟨by rw [ht]; exact G.1, va_K.moved hW.alike hK, G.2.1⟩⟩, G.2.2.F ht⟩) G.2.2.2.2 dX12_columns_11
def fr_rows (S : MS)  : Option (Int32 × MS) := elet (S.2.1 10 10) fun v2 => obind2 (fr_told S v2) fun r6 S3 => some (r6, S3)
set_option maxHeartbeats 4000000 in
set_option maxRecDepth 100000 in
theorem tr_rows (l : Launch) (D : va_G) (cI cJ cZ : ClassId) (ad : Nat → Nat) (S : MS)  {r1 : Int32} {S1 : MS} (h : fr_rows S = some (r1, S1)) : mCi l yX12_rows (Cond.code yX12_rows cX12_rows 1 (some .int) :: wsM) 2 21 D cI cJ cZ ad S [] (fun r S9 => r = r1 ∧ S9 = S1) := by
  intro sz
  refine pro_in (cc := cX12_rows) (maxL := 1) (ret := (some .int)) (by exact pn_RX12) rfl (by exact Nat.le_of_ble_eq_true rfl) (fun p e s m below meth c ls hx hb hr hts hown hlocks hml hv hl => ?_)
  obtain ⟨hsz, hP, hK, hD0, hR⟩ := hv
  subst hsz
  have hD := hD0.self (sz := s.heap.size)
  generalize hAe : va_A (MW cI cJ cZ ad S) s.heap.size = A at hD ⊢
  have hA : ∀ q : Nat, s.heap.size ≤ q → A q := fun q h => by rw [← hAe]; exact Or.inr h
  have G : mG D cI cJ cZ ad A s.heap s.heap [] S := ⟨hP, hD, va_S.rf⟩
  have E : mE p c cX12_rows s m ([.ref (ad 0)] : List Value).toArray (Cond.code yX12_rows cX12_rows 1 (some .int) :: wsM) D cI cJ cZ := ⟨hx, hb, hts, hown, hK, fun w h => .tail _ (iM_x h)⟩
  have hl : lv_has ls 1 [(0, .ref (ad 0))] := hl
  unfold fr_rows at h
  refine lv_aload_n hx hb dX12_rows_0 rfl (lv_at hl 0 rfl) ?_
  refine lv_aload_n hx hb dX12_rows_1 rfl (lv_at hl 0 rfl) ?_
  refine m_get E G 10 (v := .ref (ad 10)) (by decide) (.tail _ qM_7) rfl dX12_rows_2 rfl ?_
  refine lv_bipush (v := 10) hx hb dX12_rows_5 (by decide) ?_
  refine m_iald E G 10 2 (n := 131) (k := 10) rfl rfl (by decide) (by decide) dX12_rows_7 ?_
  refine lv_topi (fun v2 ev2 => ?_)
  have h := elet_at ev2 h
  clear ev2
  obtain ⟨r6, S3, eS3, h⟩ := obind2_some h
  refine m_calli (As := [.int v2]) (rest := []) E G hA hR hml (tr_told l D cI cJ cZ ad S v2 eS3) (cwV 1 hts (gmV qM_312 qM_313 qM_314 qM_35 qM_305) rfl rfl rfl (by decide +kernel) ⟨Nat.le_of_ble_eq_true rfl, Nat.le_of_ble_eq_true rfl⟩) rfl hl.1 rfl (lv_room (Nat.le_of_ble_eq_true rfl)) dX12_rows_8 ⟨Nat.zero_le _, Nat.zero_le _⟩ (fun q4 S5 H locs hq G => ?_)
  obtain ⟨hq1, hq2⟩ := hq
  rw [hq2] at G
  refine lv_to hq1 ?_
  clear hq1 hq2 eS3
  exact W.iret (v := r6) hx hb hr (fun t ht hW => ⟨⟨r6, S3, rfl, osome2 h, ⟨by rw [ht]; exact G.1, va_K.moved hW.alike hK, G.2.1⟩⟩, G.2.2.F ht⟩) G.2.2.2.2 dX12_rows_11
def fr_cellAt_b37  (S : MS) (s0 : Int32) : Option (Int32 × MS) := some (s0, S)
set_option maxHeartbeats 4000000 in
set_option maxRecDepth 100000 in
theorem tr_cellAt_b37 {p : Program} {l : Launch} {e : Env} {s : State} {m : MethodId} {args : Array Value} {below : List Frame} {meth : Method} {c : Code} {Q : State → Prop} {D : va_G} {A : Nat → Prop} {H0 : Heap} {cI cJ cZ : ClassId} {ad : Nat → Nat} {r1 : Int32} {S1 : MS} (E : mE p c cX12_cellAt s m args (Cond.code yX12_cellAt cX12_cellAt 3 (some .int) :: wsM) D cI cJ cZ) (hA : ∀ q : Nat, H0.size ≤ q → A q) (hR : sR s) (hml : c.maxLocals = 3) (kr13 : ∀ (H : Heap) (locs : List Loc) (ls : Array Slot), mG D cI cJ cZ ad A H0 H locs S1 → W p l e { frames := 3, cells := 0, slots := 0, locals := 43 } s m args below meth c H locs 0 0 Q (F0 m 13 ls [.int r1])) (kr37 : ∀ (H : Heap) (locs : List Loc) (ls : Array Slot), mG D cI cJ cZ ad A H0 H locs S1 → W p l e { frames := 3, cells := 0, slots := 0, locals := 43 } s m args below meth c H locs 0 0 Q (F0 m 37 ls [.int r1])) : ∀ (S : MS) (H : Heap) (locs : List Loc) (ls : Array Slot) (s0 : Int32), fr_cellAt_b37 S s0 = some (r1, S1) → mG D cI cJ cZ ad A H0 H locs S → lv_has ls 3 [] → W p l e { frames := 3, cells := 0, slots := 0, locals := 43 } s m args below meth c H locs 0 0 Q (F0 m 37 ls [.int s0]) := by
  have hx := E.1
  have hb := E.2.1
  have hts := E.2.2.1
  have hown := E.2.2.2.1
  have hK := E.2.2.2.2.1
  intro S H locs ls s0 h G hl
  unfold fr_cellAt_b37 at h
  rw [(osome2 h).2] at G
  refine lv_to (osome2 h).1 ?_
  exact kr37 _ _ _ G
def fr_cellAt (S : MS) (a0 : Int32) (a1 : Int32) : Option (Int32 × MS) := obind2 (fr_isCell S a0) fun r5 S2 => obind2 (fr_mayAsk S2 r5) fun r9 S6 => if r9 = 0 then (some (0, S6)) else (obind (fr_in a1 0 1) fun r11 => if r11 = 0 then (obind2 (fr_throwsAt S6 3) fun r17 S14 => fr_cellAt_b37 S14 r17) else (obind2 (fr_centre S6 a0 a1) fun r21 S18 => fr_cellAt_b37 S18 r21))
set_option maxHeartbeats 4000000 in
set_option maxRecDepth 100000 in
theorem tr_cellAt (l : Launch) (D : va_G) (cI cJ cZ : ClassId) (ad : Nat → Nat) (S : MS) (a0 : Int32) (a1 : Int32) {r1 : Int32} {S1 : MS} (h : fr_cellAt S a0 a1 = some (r1, S1)) : mCi l yX12_cellAt (Cond.code yX12_cellAt cX12_cellAt 3 (some .int) :: wsM) 3 43 D cI cJ cZ ad S [.int a0, .int a1] (fun r S9 => r = r1 ∧ S9 = S1) := by
  intro sz
  refine pro_in (cc := cX12_cellAt) (maxL := 3) (ret := (some .int)) (by exact pn_RX12) rfl (by exact Nat.le_of_ble_eq_true rfl) (fun p e s m below meth c ls hx hb hr hts hown hlocks hml hv hl => ?_)
  obtain ⟨hsz, hP, hK, hD0, hR⟩ := hv
  subst hsz
  have hD := hD0.self (sz := s.heap.size)
  generalize hAe : va_A (MW cI cJ cZ ad S) s.heap.size = A at hD ⊢
  have hA : ∀ q : Nat, s.heap.size ≤ q → A q := fun q h => by rw [← hAe]; exact Or.inr h
  have G : mG D cI cJ cZ ad A s.heap s.heap [] S := ⟨hP, hD, va_S.rf⟩
  have E : mE p c cX12_cellAt s m ([.ref (ad 0), .int a0, .int a1] : List Value).toArray (Cond.code yX12_cellAt cX12_cellAt 3 (some .int) :: wsM) D cI cJ cZ := ⟨hx, hb, hts, hown, hK, fun w h => .tail _ (iM_x h)⟩
  have hl : lv_has ls 3 [(0, .ref (ad 0)), (1, .int a0), (2, .int a1)] := hl
  unfold fr_cellAt at h
  refine lv_aload_n hx hb dX12_cellAt_0 rfl (lv_at hl 0 rfl) ?_
  refine lv_aload_n hx hb dX12_cellAt_1 rfl (lv_at hl 0 rfl) ?_
  refine lv_iload_n hx hb dX12_cellAt_2 rfl (lv_at hl 1 rfl) ?_
  obtain ⟨r5, S2, eS2, h⟩ := obind2_some h
  refine m_calli (As := [.int a0]) (rest := [.ref (ad 0)]) E G hA hR hml (tr_isCell l D cI cJ cZ ad S a0 eS2) (cwV 1 hts (gmV qM_326 qM_327 qM_328 qM_35 qM_307) rfl rfl rfl (by decide +kernel) ⟨Nat.le_of_ble_eq_true rfl, Nat.le_of_ble_eq_true rfl⟩) rfl hl.1 rfl (lv_room (Nat.le_of_ble_eq_true rfl)) dX12_cellAt_3 ⟨Nat.zero_le _, Nat.zero_le _⟩ (fun q3 S4 H locs hq G => ?_)
  obtain ⟨hq1, hq2⟩ := hq
  rw [hq2] at G
  refine lv_to hq1 ?_
  clear hq1 hq2 eS2
  obtain ⟨r9, S6, eS6, h⟩ := obind2_some h
  refine m_calli (As := [.int r5]) (rest := []) E G hA hR hml (tr_mayAsk l D cI cJ cZ ad S2 r5 eS6) (cwV 1 hts (gmV qM_319 qM_320 qM_321 qM_35 qM_304) rfl rfl rfl (by decide +kernel) ⟨Nat.le_of_ble_eq_true rfl, Nat.le_of_ble_eq_true rfl⟩) rfl hl.1 rfl (lv_room (Nat.le_of_ble_eq_true rfl)) dX12_cellAt_6 ⟨Nat.zero_le _, Nat.zero_le _⟩ (fun q7 S8 H locs hq G => ?_)
  obtain ⟨hq1, hq2⟩ := hq
  rw [hq2] at G
  refine lv_to hq1 ?_
  clear hq1 hq2 eS6
  refine lv_if_ne (tgt := 14) hx hb dX12_cellAt_9 (by decide) (fun c10 => ?_) (fun c10 => ?_)
  · have h := oif_neg c10 h
    refine lv_iload_n hx hb dX12_cellAt_14 rfl (lv_at hl 2 rfl) ?_
    refine lv_iconst (v := 0) hx hb dX12_cellAt_15 (by decide) ?_
    refine lv_iconst (v := 1) hx hb dX12_cellAt_16 (by decide) ?_
    obtain ⟨r11, er11, h⟩ := obind_some h
    refine m_stat (As := [.int a1, .int 0, .int 1]) (rest := []) ⟨hx, hb, hml, hown, hts⟩ (tr_in l a1 0 1 er11) (cwS 3 hts (gmS qM_52 qM_53 qM_35 qM_27) rfl rfl rfl (by decide +kernel) ⟨Nat.le_of_ble_eq_true rfl, Nat.le_of_ble_eq_true rfl⟩) rfl hl.1 rfl (lv_room (Nat.le_of_ble_eq_true rfl)) dX12_cellAt_17 ⟨Nat.zero_le _, Nat.zero_le _⟩ (fun q12 hq => ?_)
    refine lv_to hq ?_
    clear hq er11
    refine lv_if_eq (tgt := 32) hx hb dX12_cellAt_20 (by decide) (fun c13 => ?_) (fun c13 => ?_)
    · have h := oif_pos c13 h
      refine lv_aload_n hx hb dX12_cellAt_32 rfl (lv_at hl 0 rfl) ?_
      refine lv_iconst (v := 3) hx hb dX12_cellAt_33 (by decide) ?_
      obtain ⟨r17, S14, eS14, h⟩ := obind2_some h
      refine m_calli (As := [.int 3]) (rest := []) E G hA hR hml (tr_throwsAt l D cI cJ cZ ad S6 3 eS14) (cwV 1 hts (gmV qM_195 qM_196 qM_197 qM_35 qM_28) rfl rfl rfl (by decide +kernel) ⟨Nat.le_of_ble_eq_true rfl, Nat.le_of_ble_eq_true rfl⟩) rfl hl.1 rfl (lv_room (Nat.le_of_ble_eq_true rfl)) dX12_cellAt_34 ⟨Nat.zero_le _, Nat.zero_le _⟩ (fun q15 S16 H locs hq G => ?_)
      obtain ⟨hq1, hq2⟩ := hq
      rw [hq2] at G
      refine lv_to hq1 ?_
      clear hq1 hq2 eS14
      have hl := lv_sub hl [] rfl
      exact tr_cellAt_b37 E hA hR hml (fun H locs ls G => W.iret (v := r1) hx hb hr (fun t ht hW => ⟨⟨r1, S1, rfl, ⟨rfl, rfl⟩, ⟨by rw [ht]; exact G.1, va_K.moved hW.alike hK, G.2.1⟩⟩, G.2.2.F ht⟩) G.2.2.2.2 dX12_cellAt_13) (fun H locs ls G => W.iret (v := r1) hx hb hr (fun t ht hW => ⟨⟨r1, S1, rfl, ⟨rfl, rfl⟩, ⟨by rw [ht]; exact G.1, va_K.moved hW.alike hK, G.2.1⟩⟩, G.2.2.F ht⟩) G.2.2.2.2 dX12_cellAt_37) _ _ _ _ _ h G hl
    · have h := oif_neg c13 h
      refine lv_aload_n hx hb dX12_cellAt_23 rfl (lv_at hl 0 rfl) ?_
      refine lv_iload_n hx hb dX12_cellAt_24 rfl (lv_at hl 1 rfl) ?_
      refine lv_iload_n hx hb dX12_cellAt_25 rfl (lv_at hl 2 rfl) ?_
      obtain ⟨r21, S18, eS18, h⟩ := obind2_some h
      refine m_calli (As := [.int a0, .int a1]) (rest := []) E G hA hR hml (tr_centre l D cI cJ cZ ad S6 a0 a1 eS18) (cwV 2 hts (gmV qM_208 qM_209 qM_210 qM_35 qM_211) rfl rfl rfl (by decide +kernel) ⟨Nat.le_of_ble_eq_true rfl, Nat.le_of_ble_eq_true rfl⟩) rfl hl.1 rfl (lv_room (Nat.le_of_ble_eq_true rfl)) dX12_cellAt_26 ⟨Nat.zero_le _, Nat.zero_le _⟩ (fun q19 S20 H locs hq G => ?_)
      obtain ⟨hq1, hq2⟩ := hq
      rw [hq2] at G
      refine lv_to hq1 ?_
      clear hq1 hq2 eS18
      refine lv_goto (tgt := 37) hx hb dX12_cellAt_29 (by decide) ?_
      have hl := lv_sub hl [] rfl
      exact tr_cellAt_b37 E hA hR hml (fun H locs ls G => W.iret (v := r1) hx hb hr (fun t ht hW => ⟨⟨r1, S1, rfl, ⟨rfl, rfl⟩, ⟨by rw [ht]; exact G.1, va_K.moved hW.alike hK, G.2.1⟩⟩, G.2.2.F ht⟩) G.2.2.2.2 dX12_cellAt_13) (fun H locs ls G => W.iret (v := r1) hx hb hr (fun t ht hW => ⟨⟨r1, S1, rfl, ⟨rfl, rfl⟩, ⟨by rw [ht]; exact G.1, va_K.moved hW.alike hK, G.2.1⟩⟩, G.2.2.F ht⟩) G.2.2.2.2 dX12_cellAt_37) _ _ _ _ _ h G hl
  · have h := oif_pos c10 h
    refine lv_iconst (v := 0) hx hb dX12_cellAt_12 (by decide) ?_
    exact W.iret (v := 0) hx hb hr (fun t ht hW => ⟨⟨0, S6, rfl, osome2 h, ⟨by rw [ht]; exact G.1, va_K.moved hW.alike hK, G.2.1⟩⟩, G.2.2.F ht⟩) G.2.2.2.2 dX12_cellAt_13
def fr_sources (S : MS)  : Option (Int32 × MS) := elet (S.2.1 10 5) fun v2 => obind2 (fr_told S v2) fun r6 S3 => some (r6, S3)
set_option maxHeartbeats 4000000 in
set_option maxRecDepth 100000 in
theorem tr_sources (l : Launch) (D : va_G) (cI cJ cZ : ClassId) (ad : Nat → Nat) (S : MS)  {r1 : Int32} {S1 : MS} (h : fr_sources S = some (r1, S1)) : mCi l yX12_sources (Cond.code yX12_sources cX12_sources 1 (some .int) :: wsM) 2 21 D cI cJ cZ ad S [] (fun r S9 => r = r1 ∧ S9 = S1) := by
  intro sz
  refine pro_in (cc := cX12_sources) (maxL := 1) (ret := (some .int)) (by exact pn_RX12) rfl (by exact Nat.le_of_ble_eq_true rfl) (fun p e s m below meth c ls hx hb hr hts hown hlocks hml hv hl => ?_)
  obtain ⟨hsz, hP, hK, hD0, hR⟩ := hv
  subst hsz
  have hD := hD0.self (sz := s.heap.size)
  generalize hAe : va_A (MW cI cJ cZ ad S) s.heap.size = A at hD ⊢
  have hA : ∀ q : Nat, s.heap.size ≤ q → A q := fun q h => by rw [← hAe]; exact Or.inr h
  have G : mG D cI cJ cZ ad A s.heap s.heap [] S := ⟨hP, hD, va_S.rf⟩
  have E : mE p c cX12_sources s m ([.ref (ad 0)] : List Value).toArray (Cond.code yX12_sources cX12_sources 1 (some .int) :: wsM) D cI cJ cZ := ⟨hx, hb, hts, hown, hK, fun w h => .tail _ (iM_x h)⟩
  have hl : lv_has ls 1 [(0, .ref (ad 0))] := hl
  unfold fr_sources at h
  refine lv_aload_n hx hb dX12_sources_0 rfl (lv_at hl 0 rfl) ?_
  refine lv_aload_n hx hb dX12_sources_1 rfl (lv_at hl 0 rfl) ?_
  refine m_get E G 10 (v := .ref (ad 10)) (by decide) (.tail _ qM_7) rfl dX12_sources_2 rfl ?_
  refine lv_iconst (v := 5) hx hb dX12_sources_5 (by decide) ?_
  refine m_iald E G 10 2 (n := 131) (k := 5) rfl rfl (by decide) (by decide) dX12_sources_6 ?_
  refine lv_topi (fun v2 ev2 => ?_)
  have h := elet_at ev2 h
  clear ev2
  obtain ⟨r6, S3, eS3, h⟩ := obind2_some h
  refine m_calli (As := [.int v2]) (rest := []) E G hA hR hml (tr_told l D cI cJ cZ ad S v2 eS3) (cwV 1 hts (gmV qM_312 qM_313 qM_314 qM_35 qM_305) rfl rfl rfl (by decide +kernel) ⟨Nat.le_of_ble_eq_true rfl, Nat.le_of_ble_eq_true rfl⟩) rfl hl.1 rfl (lv_room (Nat.le_of_ble_eq_true rfl)) dX12_sources_7 ⟨Nat.zero_le _, Nat.zero_le _⟩ (fun q4 S5 H locs hq G => ?_)
  obtain ⟨hq1, hq2⟩ := hq
  rw [hq2] at G
  refine lv_to hq1 ?_
  clear hq1 hq2 eS3
  exact W.iret (v := r6) hx hb hr (fun t ht hW => ⟨⟨r6, S3, rfl, osome2 h, ⟨by rw [ht]; exact G.1, va_K.moved hW.alike hK, G.2.1⟩⟩, G.2.2.F ht⟩) G.2.2.2.2 dX12_sources_10
def fr_sourceAt_b50  (S : MS) (s0 : Int32) : Option (Int32 × MS) := some (s0, S)
set_option maxHeartbeats 4000000 in
set_option maxRecDepth 100000 in
theorem tr_sourceAt_b50 {p : Program} {l : Launch} {e : Env} {s : State} {m : MethodId} {args : Array Value} {below : List Frame} {meth : Method} {c : Code} {Q : State → Prop} {D : va_G} {A : Nat → Prop} {H0 : Heap} {cI cJ cZ : ClassId} {ad : Nat → Nat} {r1 : Int32} {S1 : MS} (E : mE p c cX12_sourceAt s m args (Cond.code yX12_sourceAt cX12_sourceAt 4 (some .int) :: wsM) D cI cJ cZ) (hA : ∀ q : Nat, H0.size ≤ q → A q) (hR : sR s) (hml : c.maxLocals = 4) (kr13 : ∀ (H : Heap) (locs : List Loc) (ls : Array Slot), mG D cI cJ cZ ad A H0 H locs S1 → W p l e { frames := 3, cells := 0, slots := 0, locals := 43 } s m args below meth c H locs 0 0 Q (F0 m 13 ls [.int r1])) (kr50 : ∀ (H : Heap) (locs : List Loc) (ls : Array Slot), mG D cI cJ cZ ad A H0 H locs S1 → W p l e { frames := 3, cells := 0, slots := 0, locals := 43 } s m args below meth c H locs 0 0 Q (F0 m 50 ls [.int r1])) : ∀ (S : MS) (H : Heap) (locs : List Loc) (ls : Array Slot) (s0 : Int32), fr_sourceAt_b50 S s0 = some (r1, S1) → mG D cI cJ cZ ad A H0 H locs S → lv_has ls 4 [] → W p l e { frames := 3, cells := 0, slots := 0, locals := 43 } s m args below meth c H locs 0 0 Q (F0 m 50 ls [.int s0]) := by
  have hx := E.1
  have hb := E.2.1
  have hts := E.2.2.1
  have hown := E.2.2.2.1
  have hK := E.2.2.2.2.1
  intro S H locs ls s0 h G hl
  unfold fr_sourceAt_b50 at h
  rw [(osome2 h).2] at G
  refine lv_to (osome2 h).1 ?_
  exact kr50 _ _ _ G
def fr_sourceAt_b45  (S : MS)  : Option (Int32 × MS) := obind2 (fr_throwsAt S 3) fun r5 S2 => fr_sourceAt_b50 S2 r5
set_option maxHeartbeats 4000000 in
set_option maxRecDepth 100000 in
theorem tr_sourceAt_b45 {p : Program} {l : Launch} {e : Env} {s : State} {m : MethodId} {args : Array Value} {below : List Frame} {meth : Method} {c : Code} {Q : State → Prop} {D : va_G} {A : Nat → Prop} {H0 : Heap} {cI cJ cZ : ClassId} {ad : Nat → Nat} {r1 : Int32} {S1 : MS} (E : mE p c cX12_sourceAt s m args (Cond.code yX12_sourceAt cX12_sourceAt 4 (some .int) :: wsM) D cI cJ cZ) (hA : ∀ q : Nat, H0.size ≤ q → A q) (hR : sR s) (hml : c.maxLocals = 4) (kr13 : ∀ (H : Heap) (locs : List Loc) (ls : Array Slot), mG D cI cJ cZ ad A H0 H locs S1 → W p l e { frames := 3, cells := 0, slots := 0, locals := 43 } s m args below meth c H locs 0 0 Q (F0 m 13 ls [.int r1])) (kr50 : ∀ (H : Heap) (locs : List Loc) (ls : Array Slot), mG D cI cJ cZ ad A H0 H locs S1 → W p l e { frames := 3, cells := 0, slots := 0, locals := 43 } s m args below meth c H locs 0 0 Q (F0 m 50 ls [.int r1])) : ∀ (S : MS) (H : Heap) (locs : List Loc) (ls : Array Slot), fr_sourceAt_b45 S = some (r1, S1) → mG D cI cJ cZ ad A H0 H locs S → lv_has ls 4 [(0, .ref (ad 0))] → W p l e { frames := 3, cells := 0, slots := 0, locals := 43 } s m args below meth c H locs 0 0 Q (F0 m 45 ls []) := by
  have hx := E.1
  have hb := E.2.1
  have hts := E.2.2.1
  have hown := E.2.2.2.1
  have hK := E.2.2.2.2.1
  intro S H locs ls h G hl
  unfold fr_sourceAt_b45 at h
  refine lv_aload_n hx hb dX12_sourceAt_45 rfl (lv_at hl 0 rfl) ?_
  refine lv_iconst (v := 3) hx hb dX12_sourceAt_46 (by decide) ?_
  obtain ⟨r5, S2, eS2, h⟩ := obind2_some h
  refine m_calli (As := [.int 3]) (rest := []) E G hA hR hml (tr_throwsAt l D cI cJ cZ ad S 3 eS2) (cwV 1 hts (gmV qM_195 qM_196 qM_197 qM_35 qM_28) rfl rfl rfl (by decide +kernel) ⟨Nat.le_of_ble_eq_true rfl, Nat.le_of_ble_eq_true rfl⟩) rfl hl.1 rfl (lv_room (Nat.le_of_ble_eq_true rfl)) dX12_sourceAt_47 ⟨Nat.zero_le _, Nat.zero_le _⟩ (fun q3 S4 H locs hq G => ?_)
  obtain ⟨hq1, hq2⟩ := hq
  rw [hq2] at G
  refine lv_to hq1 ?_
  clear hq1 hq2 eS2
  have hl := lv_sub hl [] rfl
  exact tr_sourceAt_b50 E hA hR hml kr13 kr50 _ _ _ _ _ h G hl
def fr_sourceAt (S : MS) (a0 : Int32) (a1 : Int32) (a2 : Int32) : Option (Int32 × MS) := obind2 (fr_isSource S a0) fun r5 S2 => obind2 (fr_mayAsk S2 r5) fun r9 S6 => if r9 = 0 then (some (0, S6)) else (obind (fr_in a1 0 1) fun r11 => if r11 = 0 then (fr_sourceAt_b45 S6) else (obind2 (fr_isTime S6 a2) fun r17 S14 => if r17 = 0 then (fr_sourceAt_b45 S14) else (obind2 (fr_sourcePlace_12 S14 a0 a1 a2) fun r22 S19 => fr_sourceAt_b50 S19 r22)))
set_option maxHeartbeats 4000000 in
set_option maxRecDepth 100000 in
theorem tr_sourceAt (l : Launch) (D : va_G) (cI cJ cZ : ClassId) (ad : Nat → Nat) (S : MS) (a0 : Int32) (a1 : Int32) (a2 : Int32) {r1 : Int32} {S1 : MS} (h : fr_sourceAt S a0 a1 a2 = some (r1, S1)) : mCi l yX12_sourceAt (Cond.code yX12_sourceAt cX12_sourceAt 4 (some .int) :: wsM) 3 43 D cI cJ cZ ad S [.int a0, .int a1, .int a2] (fun r S9 => r = r1 ∧ S9 = S1) := by
  intro sz
  refine pro_in (cc := cX12_sourceAt) (maxL := 4) (ret := (some .int)) (by exact pn_RX12) rfl (by exact Nat.le_of_ble_eq_true rfl) (fun p e s m below meth c ls hx hb hr hts hown hlocks hml hv hl => ?_)
  obtain ⟨hsz, hP, hK, hD0, hR⟩ := hv
  subst hsz
  have hD := hD0.self (sz := s.heap.size)
  generalize hAe : va_A (MW cI cJ cZ ad S) s.heap.size = A at hD ⊢
  have hA : ∀ q : Nat, s.heap.size ≤ q → A q := fun q h => by rw [← hAe]; exact Or.inr h
  have G : mG D cI cJ cZ ad A s.heap s.heap [] S := ⟨hP, hD, va_S.rf⟩
  have E : mE p c cX12_sourceAt s m ([.ref (ad 0), .int a0, .int a1, .int a2] : List Value).toArray (Cond.code yX12_sourceAt cX12_sourceAt 4 (some .int) :: wsM) D cI cJ cZ := ⟨hx, hb, hts, hown, hK, fun w h => .tail _ (iM_x h)⟩
  have hl : lv_has ls 4 [(0, .ref (ad 0)), (1, .int a0), (2, .int a1), (3, .int a2)] := hl
  unfold fr_sourceAt at h
  refine lv_aload_n hx hb dX12_sourceAt_0 rfl (lv_at hl 0 rfl) ?_
  refine lv_aload_n hx hb dX12_sourceAt_1 rfl (lv_at hl 0 rfl) ?_
  refine lv_iload_n hx hb dX12_sourceAt_2 rfl (lv_at hl 1 rfl) ?_
  obtain ⟨r5, S2, eS2, h⟩ := obind2_some h
  refine m_calli (As := [.int a0]) (rest := [.ref (ad 0)]) E G hA hR hml (tr_isSource l D cI cJ cZ ad S a0 eS2) (cwV 1 hts (gmV qM_331 qM_332 qM_333 qM_35 qM_308) rfl rfl rfl (by decide +kernel) ⟨Nat.le_of_ble_eq_true rfl, Nat.le_of_ble_eq_true rfl⟩) rfl hl.1 rfl (lv_room (Nat.le_of_ble_eq_true rfl)) dX12_sourceAt_3 ⟨Nat.zero_le _, Nat.zero_le _⟩ (fun q3 S4 H locs hq G => ?_)
  obtain ⟨hq1, hq2⟩ := hq
  rw [hq2] at G
  refine lv_to hq1 ?_
  clear hq1 hq2 eS2
  obtain ⟨r9, S6, eS6, h⟩ := obind2_some h
  refine m_calli (As := [.int r5]) (rest := []) E G hA hR hml (tr_mayAsk l D cI cJ cZ ad S2 r5 eS6) (cwV 1 hts (gmV qM_319 qM_320 qM_321 qM_35 qM_304) rfl rfl rfl (by decide +kernel) ⟨Nat.le_of_ble_eq_true rfl, Nat.le_of_ble_eq_true rfl⟩) rfl hl.1 rfl (lv_room (Nat.le_of_ble_eq_true rfl)) dX12_sourceAt_6 ⟨Nat.zero_le _, Nat.zero_le _⟩ (fun q7 S8 H locs hq G => ?_)
  obtain ⟨hq1, hq2⟩ := hq
  rw [hq2] at G
  refine lv_to hq1 ?_
  clear hq1 hq2 eS6
  refine lv_if_ne (tgt := 14) hx hb dX12_sourceAt_9 (by decide) (fun c10 => ?_) (fun c10 => ?_)
  · have h := oif_neg c10 h
    refine lv_iload_n hx hb dX12_sourceAt_14 rfl (lv_at hl 2 rfl) ?_
    refine lv_iconst (v := 0) hx hb dX12_sourceAt_15 (by decide) ?_
    refine lv_iconst (v := 1) hx hb dX12_sourceAt_16 (by decide) ?_
    obtain ⟨r11, er11, h⟩ := obind_some h
    refine m_stat (As := [.int a1, .int 0, .int 1]) (rest := []) ⟨hx, hb, hml, hown, hts⟩ (tr_in l a1 0 1 er11) (cwS 3 hts (gmS qM_52 qM_53 qM_35 qM_27) rfl rfl rfl (by decide +kernel) ⟨Nat.le_of_ble_eq_true rfl, Nat.le_of_ble_eq_true rfl⟩) rfl hl.1 rfl (lv_room (Nat.le_of_ble_eq_true rfl)) dX12_sourceAt_17 ⟨Nat.zero_le _, Nat.zero_le _⟩ (fun q12 hq => ?_)
    refine lv_to hq ?_
    clear hq er11
    refine lv_if_eq (tgt := 45) hx hb dX12_sourceAt_20 (by decide) (fun c13 => ?_) (fun c13 => ?_)
    · have h := oif_pos c13 h
      have hl := lv_sub hl [0] rfl
      exact tr_sourceAt_b45 E hA hR hml (fun H locs ls G => W.iret (v := r1) hx hb hr (fun t ht hW => ⟨⟨r1, S1, rfl, ⟨rfl, rfl⟩, ⟨by rw [ht]; exact G.1, va_K.moved hW.alike hK, G.2.1⟩⟩, G.2.2.F ht⟩) G.2.2.2.2 dX12_sourceAt_13) (fun H locs ls G => W.iret (v := r1) hx hb hr (fun t ht hW => ⟨⟨r1, S1, rfl, ⟨rfl, rfl⟩, ⟨by rw [ht]; exact G.1, va_K.moved hW.alike hK, G.2.1⟩⟩, G.2.2.F ht⟩) G.2.2.2.2 dX12_sourceAt_50) _ _ _ _ h G hl
    · have h := oif_neg c13 h
      refine lv_aload_n hx hb dX12_sourceAt_23 rfl (lv_at hl 0 rfl) ?_
      refine lv_iload_n hx hb dX12_sourceAt_24 rfl (lv_at hl 3 rfl) ?_
      obtain ⟨r17, S14, eS14, h⟩ := obind2_some h
      refine m_calli (As := [.int a2]) (rest := []) E G hA hR hml (tr_isTime l D cI cJ cZ ad S6 a2 eS14) (cwV 1 hts (gmV qM_334 qM_335 qM_336 qM_35 qM_309) rfl rfl rfl (by decide +kernel) ⟨Nat.le_of_ble_eq_true rfl, Nat.le_of_ble_eq_true rfl⟩) rfl hl.1 rfl (lv_room (Nat.le_of_ble_eq_true rfl)) dX12_sourceAt_25 ⟨Nat.zero_le _, Nat.zero_le _⟩ (fun q15 S16 H locs hq G => ?_)
      obtain ⟨hq1, hq2⟩ := hq
      rw [hq2] at G
      refine lv_to hq1 ?_
      clear hq1 hq2 eS14
      refine lv_if_eq (tgt := 45) hx hb dX12_sourceAt_28 (by decide) (fun c18 => ?_) (fun c18 => ?_)
      · have h := oif_pos c18 h
        have hl := lv_sub hl [0] rfl
        exact tr_sourceAt_b45 E hA hR hml (fun H locs ls G => W.iret (v := r1) hx hb hr (fun t ht hW => ⟨⟨r1, S1, rfl, ⟨rfl, rfl⟩, ⟨by rw [ht]; exact G.1, va_K.moved hW.alike hK, G.2.1⟩⟩, G.2.2.F ht⟩) G.2.2.2.2 dX12_sourceAt_13) (fun H locs ls G => W.iret (v := r1) hx hb hr (fun t ht hW => ⟨⟨r1, S1, rfl, ⟨rfl, rfl⟩, ⟨by rw [ht]; exact G.1, va_K.moved hW.alike hK, G.2.1⟩⟩, G.2.2.F ht⟩) G.2.2.2.2 dX12_sourceAt_50) _ _ _ _ h G hl
      · have h := oif_neg c18 h
        refine lv_aload_n hx hb dX12_sourceAt_31 rfl (lv_at hl 0 rfl) ?_
        refine lv_aload_n hx hb dX12_sourceAt_32 rfl (lv_at hl 0 rfl) ?_
        refine m_get E G 12 (v := .ref (ad 12)) (by decide) (.tail _ qM_9) rfl dX12_sourceAt_33 rfl ?_
        refine lv_iload_n hx hb dX12_sourceAt_36 rfl (lv_at hl 1 rfl) ?_
        refine lv_iload_n hx hb dX12_sourceAt_37 rfl (lv_at hl 2 rfl) ?_
        refine lv_iload_n hx hb dX12_sourceAt_38 rfl (lv_at hl 3 rfl) ?_
        obtain ⟨r22, S19, eS19, h⟩ := obind2_some h
        refine m_calli (As := [.ref (ad 12), .int a0, .int a1, .int a2]) (rest := []) E G hA hR hml (tr_sourcePlace_12 l D cI cJ cZ ad S14 a0 a1 a2 eS19) (cwV 4 hts (gmV qM_250 qM_251 qM_252 qM_35 qM_253) rfl rfl rfl (by decide +kernel) ⟨Nat.le_of_ble_eq_true rfl, Nat.le_of_ble_eq_true rfl⟩) rfl hl.1 rfl (lv_room (Nat.le_of_ble_eq_true rfl)) dX12_sourceAt_39 ⟨Nat.zero_le _, Nat.zero_le _⟩ (fun q20 S21 H locs hq G => ?_)
        obtain ⟨hq1, hq2⟩ := hq
        rw [hq2] at G
        refine lv_to hq1 ?_
        clear hq1 hq2 eS19
        refine lv_goto (tgt := 50) hx hb dX12_sourceAt_42 (by decide) ?_
        have hl := lv_sub hl [] rfl
        exact tr_sourceAt_b50 E hA hR hml (fun H locs ls G => W.iret (v := r1) hx hb hr (fun t ht hW => ⟨⟨r1, S1, rfl, ⟨rfl, rfl⟩, ⟨by rw [ht]; exact G.1, va_K.moved hW.alike hK, G.2.1⟩⟩, G.2.2.F ht⟩) G.2.2.2.2 dX12_sourceAt_13) (fun H locs ls G => W.iret (v := r1) hx hb hr (fun t ht hW => ⟨⟨r1, S1, rfl, ⟨rfl, rfl⟩, ⟨by rw [ht]; exact G.1, va_K.moved hW.alike hK, G.2.1⟩⟩, G.2.2.F ht⟩) G.2.2.2.2 dX12_sourceAt_50) _ _ _ _ _ h G hl
  · have h := oif_pos c10 h
    refine lv_iconst (v := 0) hx hb dX12_sourceAt_12 (by decide) ?_
    exact W.iret (v := 0) hx hb hr (fun t ht hW => ⟨⟨0, S6, rfl, osome2 h, ⟨by rw [ht]; exact G.1, va_K.moved hW.alike hK, G.2.1⟩⟩, G.2.2.F ht⟩) G.2.2.2.2 dX12_sourceAt_13
def fr_isOn_b30  (S : MS) (s0 : Int32) : Option (Int32 × MS) := oif (s0 = 0 ∨ s0 = 1) <| some (s0, S)
set_option maxHeartbeats 4000000 in
set_option maxRecDepth 100000 in
theorem tr_isOn_b30 {p : Program} {l : Launch} {e : Env} {s : State} {m : MethodId} {args : Array Value} {below : List Frame} {meth : Method} {c : Code} {Q : State → Prop} {D : va_G} {A : Nat → Prop} {H0 : Heap} {cI cJ cZ : ClassId} {ad : Nat → Nat} {r1 : Int32} {S1 : MS} (E : mE p c cX12_isOn s m args (Cond.code yX12_isOn cX12_isOn 2 (some .boolean) :: wsM) D cI cJ cZ) (hA : ∀ q : Nat, H0.size ≤ q → A q) (hR : sR s) (hml : c.maxLocals = 2) (kr30 : ∀ (H : Heap) (locs : List Loc) (ls : Array Slot), (r1 = 0 ∨ r1 = 1) → mG D cI cJ cZ ad A H0 H locs S1 → W p l e { frames := 3, cells := 0, slots := 0, locals := 43 } s m args below meth c H locs 0 0 Q (F0 m 30 ls [.int r1])) : ∀ (S : MS) (H : Heap) (locs : List Loc) (ls : Array Slot) (s0 : Int32), fr_isOn_b30 S s0 = some (r1, S1) → mG D cI cJ cZ ad A H0 H locs S → lv_has ls 2 [] → W p l e { frames := 3, cells := 0, slots := 0, locals := 43 } s m args below meth c H locs 0 0 Q (F0 m 30 ls [.int s0]) := by
  have hx := E.1
  have hb := E.2.1
  have hts := E.2.2.1
  have hown := E.2.2.2.1
  have hK := E.2.2.2.2.1
  intro S H locs ls s0 h G hl
  unfold fr_isOn_b30 at h
  obtain ⟨gz, h⟩ := oif_some h
  have gr : r1 = 0 ∨ r1 = 1 := by rw [← (osome2 h).1]; exact gz
  rw [(osome2 h).2] at G
  refine lv_to (osome2 h).1 ?_
  exact kr30 _ _ _ gr G
def fr_isOn_b29  (S : MS)  : Option (Int32 × MS) := fr_isOn_b30 S 0
set_option maxHeartbeats 4000000 in
set_option maxRecDepth 100000 in
theorem tr_isOn_b29 {p : Program} {l : Launch} {e : Env} {s : State} {m : MethodId} {args : Array Value} {below : List Frame} {meth : Method} {c : Code} {Q : State → Prop} {D : va_G} {A : Nat → Prop} {H0 : Heap} {cI cJ cZ : ClassId} {ad : Nat → Nat} {r1 : Int32} {S1 : MS} (E : mE p c cX12_isOn s m args (Cond.code yX12_isOn cX12_isOn 2 (some .boolean) :: wsM) D cI cJ cZ) (hA : ∀ q : Nat, H0.size ≤ q → A q) (hR : sR s) (hml : c.maxLocals = 2) (kr30 : ∀ (H : Heap) (locs : List Loc) (ls : Array Slot), (r1 = 0 ∨ r1 = 1) → mG D cI cJ cZ ad A H0 H locs S1 → W p l e { frames := 3, cells := 0, slots := 0, locals := 43 } s m args below meth c H locs 0 0 Q (F0 m 30 ls [.int r1])) : ∀ (S : MS) (H : Heap) (locs : List Loc) (ls : Array Slot), fr_isOn_b29 S = some (r1, S1) → mG D cI cJ cZ ad A H0 H locs S → lv_has ls 2 [] → W p l e { frames := 3, cells := 0, slots := 0, locals := 43 } s m args below meth c H locs 0 0 Q (F0 m 29 ls []) := by
  have hx := E.1
  have hb := E.2.1
  have hts := E.2.2.1
  have hown := E.2.2.2.1
  have hK := E.2.2.2.2.1
  intro S H locs ls h G hl
  unfold fr_isOn_b29 at h
  refine lv_iconst (v := 0) hx hb dX12_isOn_29 (by decide) ?_
  have hl := lv_sub hl [] rfl
  exact tr_isOn_b30 E hA hR hml kr30 _ _ _ _ _ h G hl
def fr_isOn (S : MS) (a0 : Int32) : Option (Int32 × MS) := obind2 (fr_isSource S a0) fun r5 S2 => obind2 (fr_mayAsk S2 r5) fun r9 S6 => if r9 = 0 then (fr_isOn_b29 S6) else (elet (25 + a0) fun v11 => oif (inb v11 2455 = true) <| elet (S6.2.1 12 v11.toNatClampNeg) fun v13 => if v13 = 1 then (fr_isOn_b30 S6 1) else (fr_isOn_b29 S6))
set_option maxHeartbeats 4000000 in
set_option maxRecDepth 100000 in
theorem tr_isOn (l : Launch) (D : va_G) (cI cJ cZ : ClassId) (ad : Nat → Nat) (S : MS) (a0 : Int32) {r1 : Int32} {S1 : MS} (h : fr_isOn S a0 = some (r1, S1)) : mCi l yX12_isOn (Cond.code yX12_isOn cX12_isOn 2 (some .boolean) :: wsM) 3 43 D cI cJ cZ ad S [.int a0] (fun r S9 => r = r1 ∧ S9 = S1) := by
  intro sz
  refine pro_in (cc := cX12_isOn) (maxL := 2) (ret := (some .boolean)) (by exact pn_RX12) rfl (by exact Nat.le_of_ble_eq_true rfl) (fun p e s m below meth c ls hx hb hr hts hown hlocks hml hv hl => ?_)
  obtain ⟨hsz, hP, hK, hD0, hR⟩ := hv
  subst hsz
  have hD := hD0.self (sz := s.heap.size)
  generalize hAe : va_A (MW cI cJ cZ ad S) s.heap.size = A at hD ⊢
  have hA : ∀ q : Nat, s.heap.size ≤ q → A q := fun q h => by rw [← hAe]; exact Or.inr h
  have G : mG D cI cJ cZ ad A s.heap s.heap [] S := ⟨hP, hD, va_S.rf⟩
  have E : mE p c cX12_isOn s m ([.ref (ad 0), .int a0] : List Value).toArray (Cond.code yX12_isOn cX12_isOn 2 (some .boolean) :: wsM) D cI cJ cZ := ⟨hx, hb, hts, hown, hK, fun w h => .tail _ (iM_x h)⟩
  have hl : lv_has ls 2 [(0, .ref (ad 0)), (1, .int a0)] := hl
  unfold fr_isOn at h
  refine lv_aload_n hx hb dX12_isOn_0 rfl (lv_at hl 0 rfl) ?_
  refine lv_aload_n hx hb dX12_isOn_1 rfl (lv_at hl 0 rfl) ?_
  refine lv_iload_n hx hb dX12_isOn_2 rfl (lv_at hl 1 rfl) ?_
  obtain ⟨r5, S2, eS2, h⟩ := obind2_some h
  refine m_calli (As := [.int a0]) (rest := [.ref (ad 0)]) E G hA hR hml (tr_isSource l D cI cJ cZ ad S a0 eS2) (cwV 1 hts (gmV qM_331 qM_332 qM_333 qM_35 qM_308) rfl rfl rfl (by decide +kernel) ⟨Nat.le_of_ble_eq_true rfl, Nat.le_of_ble_eq_true rfl⟩) rfl hl.1 rfl (lv_room (Nat.le_of_ble_eq_true rfl)) dX12_isOn_3 ⟨Nat.zero_le _, Nat.zero_le _⟩ (fun q3 S4 H locs hq G => ?_)
  obtain ⟨hq1, hq2⟩ := hq
  rw [hq2] at G
  refine lv_to hq1 ?_
  clear hq1 hq2 eS2
  obtain ⟨r9, S6, eS6, h⟩ := obind2_some h
  refine m_calli (As := [.int r5]) (rest := []) E G hA hR hml (tr_mayAsk l D cI cJ cZ ad S2 r5 eS6) (cwV 1 hts (gmV qM_319 qM_320 qM_321 qM_35 qM_304) rfl rfl rfl (by decide +kernel) ⟨Nat.le_of_ble_eq_true rfl, Nat.le_of_ble_eq_true rfl⟩) rfl hl.1 rfl (lv_room (Nat.le_of_ble_eq_true rfl)) dX12_isOn_6 ⟨Nat.zero_le _, Nat.zero_le _⟩ (fun q7 S8 H locs hq G => ?_)
  obtain ⟨hq1, hq2⟩ := hq
  rw [hq2] at G
  refine lv_to hq1 ?_
  clear hq1 hq2 eS6
  refine lv_if_eq (tgt := 29) hx hb dX12_isOn_9 (by decide) (fun c10 => ?_) (fun c10 => ?_)
  · have h := oif_pos c10 h
    have hl := lv_sub hl [] rfl
    exact tr_isOn_b29 E hA hR hml (fun H locs ls gz G => W.zret (v := r1) hx hb hr (nar01 gz) (fun t ht hW => ⟨⟨r1, S1, rfl, ⟨rfl, rfl⟩, ⟨by rw [ht]; exact G.1, va_K.moved hW.alike hK, G.2.1⟩⟩, G.2.2.F ht⟩) G.2.2.2.2 dX12_isOn_30) _ _ _ _ h G hl
  · have h := oif_neg c10 h
    refine lv_aload_n hx hb dX12_isOn_12 rfl (lv_at hl 0 rfl) ?_
    refine m_get E G 12 (v := .ref (ad 12)) (by decide) (.tail _ qM_9) rfl dX12_isOn_13 rfl ?_
    refine lv_bipush (v := 25) hx hb dX12_isOn_16 (by decide) ?_
    refine lv_iload_n hx hb dX12_isOn_18 rfl (lv_at hl 1 rfl) ?_
    refine lv_iadd hx hb dX12_isOn_19 ?_
    refine lv_topi (fun v11 ev11 => ?_)
    have h := elet_at ev11 h
    clear ev11
    obtain ⟨g12, h⟩ := oif_some h
    refine m_iald E G 12 4 (n := 2455) (k := v11.toNatClampNeg) rfl (inb_k g12).1 (inb_k g12).2 (by decide) dX12_isOn_20 ?_
    refine lv_topi (fun v13 ev13 => ?_)
    have h := elet_at ev13 h
    clear ev13
    refine lv_iconst (v := 1) hx hb dX12_isOn_21 (by decide) ?_
    refine lv_icmp_ne (tgt := 29) hx hb dX12_isOn_22 (by decide) (fun c14 => ?_) (fun c14 => ?_)
    · have h := oif_neg c14 h
      have hl := lv_sub hl [] rfl
      exact tr_isOn_b29 E hA hR hml (fun H locs ls gz G => W.zret (v := r1) hx hb hr (nar01 gz) (fun t ht hW => ⟨⟨r1, S1, rfl, ⟨rfl, rfl⟩, ⟨by rw [ht]; exact G.1, va_K.moved hW.alike hK, G.2.1⟩⟩, G.2.2.F ht⟩) G.2.2.2.2 dX12_isOn_30) _ _ _ _ h G hl
    · have h := oif_pos c14 h
      refine lv_iconst (v := 1) hx hb dX12_isOn_25 (by decide) ?_
      refine lv_goto (tgt := 30) hx hb dX12_isOn_26 (by decide) ?_
      have hl := lv_sub hl [] rfl
      exact tr_isOn_b30 E hA hR hml (fun H locs ls gz G => W.zret (v := r1) hx hb hr (nar01 gz) (fun t ht hW => ⟨⟨r1, S1, rfl, ⟨rfl, rfl⟩, ⟨by rw [ht]; exact G.1, va_K.moved hW.alike hK, G.2.1⟩⟩, G.2.2.F ht⟩) G.2.2.2.2 dX12_isOn_30) _ _ _ _ _ h G hl
def fr_waveAt_b36  (S : MS) (s0 : Int32) : Option (Int32 × MS) := some (s0, S)
set_option maxHeartbeats 4000000 in
set_option maxRecDepth 100000 in
theorem tr_waveAt_b36 {p : Program} {l : Launch} {e : Env} {s : State} {m : MethodId} {args : Array Value} {below : List Frame} {meth : Method} {c : Code} {Q : State → Prop} {D : va_G} {A : Nat → Prop} {H0 : Heap} {cI cJ cZ : ClassId} {ad : Nat → Nat} {r1 : Int32} {S1 : MS} (E : mE p c cX12_waveAt s m args (Cond.code yX12_waveAt cX12_waveAt 3 (some .int) :: wsM) D cI cJ cZ) (hA : ∀ q : Nat, H0.size ≤ q → A q) (hR : sR s) (hml : c.maxLocals = 3) (kr13 : ∀ (H : Heap) (locs : List Loc) (ls : Array Slot), mG D cI cJ cZ ad A H0 H locs S1 → W p l e { frames := 3, cells := 0, slots := 0, locals := 44 } s m args below meth c H locs 0 0 Q (F0 m 13 ls [.int r1])) (kr36 : ∀ (H : Heap) (locs : List Loc) (ls : Array Slot), mG D cI cJ cZ ad A H0 H locs S1 → W p l e { frames := 3, cells := 0, slots := 0, locals := 44 } s m args below meth c H locs 0 0 Q (F0 m 36 ls [.int r1])) : ∀ (S : MS) (H : Heap) (locs : List Loc) (ls : Array Slot) (s0 : Int32), fr_waveAt_b36 S s0 = some (r1, S1) → mG D cI cJ cZ ad A H0 H locs S → lv_has ls 3 [] → W p l e { frames := 3, cells := 0, slots := 0, locals := 44 } s m args below meth c H locs 0 0 Q (F0 m 36 ls [.int s0]) := by
  have hx := E.1
  have hb := E.2.1
  have hts := E.2.2.1
  have hown := E.2.2.2.1
  have hK := E.2.2.2.2.1
  intro S H locs ls s0 h G hl
  unfold fr_waveAt_b36 at h
  rw [(osome2 h).2] at G
  refine lv_to (osome2 h).1 ?_
  exact kr36 _ _ _ G
def fr_waveAt (S : MS) (a0 : Int32) (a1 : Int32) : Option (Int32 × MS) := obind2 (fr_isSource S a0) fun r5 S2 => obind2 (fr_mayAsk S2 r5) fun r9 S6 => if r9 = 0 then (some (0, S6)) else (obind2 (fr_isTime S6 a1) fun r14 S11 => if r14 = 0 then (obind2 (fr_throwsAt S11 3) fun r19 S16 => fr_waveAt_b36 S16 r19) else (obind2 (fr_wave S11 a0 a1) fun r23 S20 => fr_waveAt_b36 S20 r23))
set_option maxHeartbeats 4000000 in
set_option maxRecDepth 100000 in
theorem tr_waveAt (l : Launch) (D : va_G) (cI cJ cZ : ClassId) (ad : Nat → Nat) (S : MS) (a0 : Int32) (a1 : Int32) {r1 : Int32} {S1 : MS} (h : fr_waveAt S a0 a1 = some (r1, S1)) : mCi l yX12_waveAt (Cond.code yX12_waveAt cX12_waveAt 3 (some .int) :: wsM) 3 44 D cI cJ cZ ad S [.int a0, .int a1] (fun r S9 => r = r1 ∧ S9 = S1) := by
  intro sz
  refine pro_in (cc := cX12_waveAt) (maxL := 3) (ret := (some .int)) (by exact pn_RX12) rfl (by exact Nat.le_of_ble_eq_true rfl) (fun p e s m below meth c ls hx hb hr hts hown hlocks hml hv hl => ?_)
  obtain ⟨hsz, hP, hK, hD0, hR⟩ := hv
  subst hsz
  have hD := hD0.self (sz := s.heap.size)
  generalize hAe : va_A (MW cI cJ cZ ad S) s.heap.size = A at hD ⊢
  have hA : ∀ q : Nat, s.heap.size ≤ q → A q := fun q h => by rw [← hAe]; exact Or.inr h
  have G : mG D cI cJ cZ ad A s.heap s.heap [] S := ⟨hP, hD, va_S.rf⟩
  have E : mE p c cX12_waveAt s m ([.ref (ad 0), .int a0, .int a1] : List Value).toArray (Cond.code yX12_waveAt cX12_waveAt 3 (some .int) :: wsM) D cI cJ cZ := ⟨hx, hb, hts, hown, hK, fun w h => .tail _ (iM_x h)⟩
  have hl : lv_has ls 3 [(0, .ref (ad 0)), (1, .int a0), (2, .int a1)] := hl
  unfold fr_waveAt at h
  refine lv_aload_n hx hb dX12_waveAt_0 rfl (lv_at hl 0 rfl) ?_
  refine lv_aload_n hx hb dX12_waveAt_1 rfl (lv_at hl 0 rfl) ?_
  refine lv_iload_n hx hb dX12_waveAt_2 rfl (lv_at hl 1 rfl) ?_
  obtain ⟨r5, S2, eS2, h⟩ := obind2_some h
  refine m_calli (As := [.int a0]) (rest := [.ref (ad 0)]) E G hA hR hml (tr_isSource l D cI cJ cZ ad S a0 eS2) (cwV 1 hts (gmV qM_331 qM_332 qM_333 qM_35 qM_308) rfl rfl rfl (by decide +kernel) ⟨Nat.le_of_ble_eq_true rfl, Nat.le_of_ble_eq_true rfl⟩) rfl hl.1 rfl (lv_room (Nat.le_of_ble_eq_true rfl)) dX12_waveAt_3 ⟨Nat.zero_le _, Nat.zero_le _⟩ (fun q3 S4 H locs hq G => ?_)
  obtain ⟨hq1, hq2⟩ := hq
  rw [hq2] at G
  refine lv_to hq1 ?_
  clear hq1 hq2 eS2
  obtain ⟨r9, S6, eS6, h⟩ := obind2_some h
  refine m_calli (As := [.int r5]) (rest := []) E G hA hR hml (tr_mayAsk l D cI cJ cZ ad S2 r5 eS6) (cwV 1 hts (gmV qM_319 qM_320 qM_321 qM_35 qM_304) rfl rfl rfl (by decide +kernel) ⟨Nat.le_of_ble_eq_true rfl, Nat.le_of_ble_eq_true rfl⟩) rfl hl.1 rfl (lv_room (Nat.le_of_ble_eq_true rfl)) dX12_waveAt_6 ⟨Nat.zero_le _, Nat.zero_le _⟩ (fun q7 S8 H locs hq G => ?_)
  obtain ⟨hq1, hq2⟩ := hq
  rw [hq2] at G
  refine lv_to hq1 ?_
  clear hq1 hq2 eS6
  refine lv_if_ne (tgt := 14) hx hb dX12_waveAt_9 (by decide) (fun c10 => ?_) (fun c10 => ?_)
  · have h := oif_neg c10 h
    refine lv_aload_n hx hb dX12_waveAt_14 rfl (lv_at hl 0 rfl) ?_
    refine lv_iload_n hx hb dX12_waveAt_15 rfl (lv_at hl 2 rfl) ?_
    obtain ⟨r14, S11, eS11, h⟩ := obind2_some h
    refine m_calli (As := [.int a1]) (rest := []) E G hA hR hml (tr_isTime l D cI cJ cZ ad S6 a1 eS11) (cwV 1 hts (gmV qM_334 qM_335 qM_336 qM_35 qM_309) rfl rfl rfl (by decide +kernel) ⟨Nat.le_of_ble_eq_true rfl, Nat.le_of_ble_eq_true rfl⟩) rfl hl.1 rfl (lv_room (Nat.le_of_ble_eq_true rfl)) dX12_waveAt_16 ⟨Nat.zero_le _, Nat.zero_le _⟩ (fun q12 S13 H locs hq G => ?_)
    obtain ⟨hq1, hq2⟩ := hq
    rw [hq2] at G
    refine lv_to hq1 ?_
    clear hq1 hq2 eS11
    refine lv_if_eq (tgt := 31) hx hb dX12_waveAt_19 (by decide) (fun c15 => ?_) (fun c15 => ?_)
    · have h := oif_pos c15 h
      refine lv_aload_n hx hb dX12_waveAt_31 rfl (lv_at hl 0 rfl) ?_
      refine lv_iconst (v := 3) hx hb dX12_waveAt_32 (by decide) ?_
      obtain ⟨r19, S16, eS16, h⟩ := obind2_some h
      refine m_calli (As := [.int 3]) (rest := []) E G hA hR hml (tr_throwsAt l D cI cJ cZ ad S11 3 eS16) (cwV 1 hts (gmV qM_195 qM_196 qM_197 qM_35 qM_28) rfl rfl rfl (by decide +kernel) ⟨Nat.le_of_ble_eq_true rfl, Nat.le_of_ble_eq_true rfl⟩) rfl hl.1 rfl (lv_room (Nat.le_of_ble_eq_true rfl)) dX12_waveAt_33 ⟨Nat.zero_le _, Nat.zero_le _⟩ (fun q17 S18 H locs hq G => ?_)
      obtain ⟨hq1, hq2⟩ := hq
      rw [hq2] at G
      refine lv_to hq1 ?_
      clear hq1 hq2 eS16
      have hl := lv_sub hl [] rfl
      exact tr_waveAt_b36 E hA hR hml (fun H locs ls G => W.iret (v := r1) hx hb hr (fun t ht hW => ⟨⟨r1, S1, rfl, ⟨rfl, rfl⟩, ⟨by rw [ht]; exact G.1, va_K.moved hW.alike hK, G.2.1⟩⟩, G.2.2.F ht⟩) G.2.2.2.2 dX12_waveAt_13) (fun H locs ls G => W.iret (v := r1) hx hb hr (fun t ht hW => ⟨⟨r1, S1, rfl, ⟨rfl, rfl⟩, ⟨by rw [ht]; exact G.1, va_K.moved hW.alike hK, G.2.1⟩⟩, G.2.2.F ht⟩) G.2.2.2.2 dX12_waveAt_36) _ _ _ _ _ h G hl
    · have h := oif_neg c15 h
      refine lv_aload_n hx hb dX12_waveAt_22 rfl (lv_at hl 0 rfl) ?_
      refine lv_iload_n hx hb dX12_waveAt_23 rfl (lv_at hl 1 rfl) ?_
      refine lv_iload_n hx hb dX12_waveAt_24 rfl (lv_at hl 2 rfl) ?_
      obtain ⟨r23, S20, eS20, h⟩ := obind2_some h
      refine m_calli (As := [.int a0, .int a1]) (rest := []) E G hA hR hml (tr_wave l D cI cJ cZ ad S11 a0 a1 eS20) (cwV 2 hts (gmV qM_241 qM_242 qM_243 qM_35 qM_244) rfl rfl rfl (by decide +kernel) ⟨Nat.le_of_ble_eq_true rfl, Nat.le_of_ble_eq_true rfl⟩) rfl hl.1 rfl (lv_room (Nat.le_of_ble_eq_true rfl)) dX12_waveAt_25 ⟨Nat.zero_le _, Nat.zero_le _⟩ (fun q21 S22 H locs hq G => ?_)
      obtain ⟨hq1, hq2⟩ := hq
      rw [hq2] at G
      refine lv_to hq1 ?_
      clear hq1 hq2 eS20
      refine lv_goto (tgt := 36) hx hb dX12_waveAt_28 (by decide) ?_
      have hl := lv_sub hl [] rfl
      exact tr_waveAt_b36 E hA hR hml (fun H locs ls G => W.iret (v := r1) hx hb hr (fun t ht hW => ⟨⟨r1, S1, rfl, ⟨rfl, rfl⟩, ⟨by rw [ht]; exact G.1, va_K.moved hW.alike hK, G.2.1⟩⟩, G.2.2.F ht⟩) G.2.2.2.2 dX12_waveAt_13) (fun H locs ls G => W.iret (v := r1) hx hb hr (fun t ht hW => ⟨⟨r1, S1, rfl, ⟨rfl, rfl⟩, ⟨by rw [ht]; exact G.1, va_K.moved hW.alike hK, G.2.1⟩⟩, G.2.2.F ht⟩) G.2.2.2.2 dX12_waveAt_36) _ _ _ _ _ h G hl
  · have h := oif_pos c10 h
    refine lv_iconst (v := 0) hx hb dX12_waveAt_12 (by decide) ?_
    exact W.iret (v := 0) hx hb hr (fun t ht hW => ⟨⟨0, S6, rfl, osome2 h, ⟨by rw [ht]; exact G.1, va_K.moved hW.alike hK, G.2.1⟩⟩, G.2.2.F ht⟩) G.2.2.2.2 dX12_waveAt_13
def fr_samples (S : MS)  : Option (Int32 × MS) := elet (S.2.1 10 2) fun v2 => obind2 (fr_told S v2) fun r6 S3 => some (r6, S3)
set_option maxHeartbeats 4000000 in
set_option maxRecDepth 100000 in
theorem tr_samples (l : Launch) (D : va_G) (cI cJ cZ : ClassId) (ad : Nat → Nat) (S : MS)  {r1 : Int32} {S1 : MS} (h : fr_samples S = some (r1, S1)) : mCi l yX12_samples (Cond.code yX12_samples cX12_samples 1 (some .int) :: wsM) 2 21 D cI cJ cZ ad S [] (fun r S9 => r = r1 ∧ S9 = S1) := by
  intro sz
  refine pro_in (cc := cX12_samples) (maxL := 1) (ret := (some .int)) (by exact pn_RX12) rfl (by exact Nat.le_of_ble_eq_true rfl) (fun p e s m below meth c ls hx hb hr hts hown hlocks hml hv hl => ?_)
  obtain ⟨hsz, hP, hK, hD0, hR⟩ := hv
  subst hsz
  have hD := hD0.self (sz := s.heap.size)
  generalize hAe : va_A (MW cI cJ cZ ad S) s.heap.size = A at hD ⊢
  have hA : ∀ q : Nat, s.heap.size ≤ q → A q := fun q h => by rw [← hAe]; exact Or.inr h
  have G : mG D cI cJ cZ ad A s.heap s.heap [] S := ⟨hP, hD, va_S.rf⟩
  have E : mE p c cX12_samples s m ([.ref (ad 0)] : List Value).toArray (Cond.code yX12_samples cX12_samples 1 (some .int) :: wsM) D cI cJ cZ := ⟨hx, hb, hts, hown, hK, fun w h => .tail _ (iM_x h)⟩
  have hl : lv_has ls 1 [(0, .ref (ad 0))] := hl
  unfold fr_samples at h
  refine lv_aload_n hx hb dX12_samples_0 rfl (lv_at hl 0 rfl) ?_
  refine lv_aload_n hx hb dX12_samples_1 rfl (lv_at hl 0 rfl) ?_
  refine m_get E G 10 (v := .ref (ad 10)) (by decide) (.tail _ qM_7) rfl dX12_samples_2 rfl ?_
  refine lv_iconst (v := 2) hx hb dX12_samples_5 (by decide) ?_
  refine m_iald E G 10 2 (n := 131) (k := 2) rfl rfl (by decide) (by decide) dX12_samples_6 ?_
  refine lv_topi (fun v2 ev2 => ?_)
  have h := elet_at ev2 h
  clear ev2
  obtain ⟨r6, S3, eS3, h⟩ := obind2_some h
  refine m_calli (As := [.int v2]) (rest := []) E G hA hR hml (tr_told l D cI cJ cZ ad S v2 eS3) (cwV 1 hts (gmV qM_312 qM_313 qM_314 qM_35 qM_305) rfl rfl rfl (by decide +kernel) ⟨Nat.le_of_ble_eq_true rfl, Nat.le_of_ble_eq_true rfl⟩) rfl hl.1 rfl (lv_room (Nat.le_of_ble_eq_true rfl)) dX12_samples_7 ⟨Nat.zero_le _, Nat.zero_le _⟩ (fun q4 S5 H locs hq G => ?_)
  obtain ⟨hq1, hq2⟩ := hq
  rw [hq2] at G
  refine lv_to hq1 ?_
  clear hq1 hq2 eS3
  exact W.iret (v := r6) hx hb hr (fun t ht hW => ⟨⟨r6, S3, rfl, osome2 h, ⟨by rw [ht]; exact G.1, va_K.moved hW.alike hK, G.2.1⟩⟩, G.2.2.F ht⟩) G.2.2.2.2 dX12_samples_10
def fr_delay_b43  (S : MS) (s0 : Int32) : Option (Int32 × MS) := some (s0, S)
set_option maxHeartbeats 4000000 in
set_option maxRecDepth 100000 in
theorem tr_delay_b43 {p : Program} {l : Launch} {e : Env} {s : State} {m : MethodId} {args : Array Value} {below : List Frame} {meth : Method} {c : Code} {Q : State → Prop} {D : va_G} {A : Nat → Prop} {H0 : Heap} {cI cJ cZ : ClassId} {ad : Nat → Nat} {r1 : Int32} {S1 : MS} (E : mE p c cX12_delay s m args (Cond.code yX12_delay cX12_delay 3 (some .int) :: wsM) D cI cJ cZ) (hA : ∀ q : Nat, H0.size ≤ q → A q) (hR : sR s) (hml : c.maxLocals = 3) (kr43 : ∀ (H : Heap) (locs : List Loc) (ls : Array Slot), mG D cI cJ cZ ad A H0 H locs S1 → W p l e { frames := 3, cells := 0, slots := 0, locals := 43 } s m args below meth c H locs 0 0 Q (F0 m 43 ls [.int r1])) : ∀ (S : MS) (H : Heap) (locs : List Loc) (ls : Array Slot) (s0 : Int32), fr_delay_b43 S s0 = some (r1, S1) → mG D cI cJ cZ ad A H0 H locs S → lv_has ls 3 [] → W p l e { frames := 3, cells := 0, slots := 0, locals := 43 } s m args below meth c H locs 0 0 Q (F0 m 43 ls [.int s0]) := by
  have hx := E.1
  have hb := E.2.1
  have hts := E.2.2.1
  have hown := E.2.2.2.1
  have hK := E.2.2.2.2.1
  intro S H locs ls s0 h G hl
  unfold fr_delay_b43 at h
  rw [(osome2 h).2] at G
  refine lv_to (osome2 h).1 ?_
  exact kr43 _ _ _ G
def fr_delay_b22  (S : MS) (s0 : Int32) (l1 : Int32) (l2 : Int32) : Option (Int32 × MS) := obind2 (fr_mayAsk S s0) fun r5 S2 => if r5 = 0 then (fr_delay_b43 S2 0) else (elet (12 * l2) fun v7 => elet (v7 + l1) fun v8 => oif (inb v8 1728 = true) <| elet (S2.2.1 17 v8.toNatClampNeg) fun v10 => fr_delay_b43 S2 v10)
set_option maxHeartbeats 4000000 in
set_option maxRecDepth 100000 in
theorem tr_delay_b22 {p : Program} {l : Launch} {e : Env} {s : State} {m : MethodId} {args : Array Value} {below : List Frame} {meth : Method} {c : Code} {Q : State → Prop} {D : va_G} {A : Nat → Prop} {H0 : Heap} {cI cJ cZ : ClassId} {ad : Nat → Nat} {r1 : Int32} {S1 : MS} (E : mE p c cX12_delay s m args (Cond.code yX12_delay cX12_delay 3 (some .int) :: wsM) D cI cJ cZ) (hA : ∀ q : Nat, H0.size ≤ q → A q) (hR : sR s) (hml : c.maxLocals = 3) (kr43 : ∀ (H : Heap) (locs : List Loc) (ls : Array Slot), mG D cI cJ cZ ad A H0 H locs S1 → W p l e { frames := 3, cells := 0, slots := 0, locals := 43 } s m args below meth c H locs 0 0 Q (F0 m 43 ls [.int r1])) : ∀ (S : MS) (H : Heap) (locs : List Loc) (ls : Array Slot) (s0 : Int32) (l1 : Int32) (l2 : Int32), fr_delay_b22 S s0 l1 l2 = some (r1, S1) → mG D cI cJ cZ ad A H0 H locs S → lv_has ls 3 [(0, .ref (ad 0)), (1, .int l1), (2, .int l2)] → W p l e { frames := 3, cells := 0, slots := 0, locals := 43 } s m args below meth c H locs 0 0 Q (F0 m 22 ls [.int s0, .ref (ad 0)]) := by
  have hx := E.1
  have hb := E.2.1
  have hts := E.2.2.1
  have hown := E.2.2.2.1
  have hK := E.2.2.2.2.1
  intro S H locs ls s0 l1 l2 h G hl
  unfold fr_delay_b22 at h
  obtain ⟨r5, S2, eS2, h⟩ := obind2_some h
  refine m_calli (As := [.int s0]) (rest := []) E G hA hR hml (tr_mayAsk l D cI cJ cZ ad S s0 eS2) (cwV 1 hts (gmV qM_319 qM_320 qM_321 qM_35 qM_304) rfl rfl rfl (by decide +kernel) ⟨Nat.le_of_ble_eq_true rfl, Nat.le_of_ble_eq_true rfl⟩) rfl hl.1 rfl (lv_room (Nat.le_of_ble_eq_true rfl)) dX12_delay_22 ⟨Nat.zero_le _, Nat.zero_le _⟩ (fun q3 S4 H locs hq G => ?_)
  obtain ⟨hq1, hq2⟩ := hq
  rw [hq2] at G
  refine lv_to hq1 ?_
  clear hq1 hq2 eS2
  refine lv_if_eq (tgt := 42) hx hb dX12_delay_25 (by decide) (fun c6 => ?_) (fun c6 => ?_)
  · have h := oif_pos c6 h
    refine lv_iconst (v := 0) hx hb dX12_delay_42 (by decide) ?_
    have hl := lv_sub hl [] rfl
    exact tr_delay_b43 E hA hR hml kr43 _ _ _ _ _ h G hl
  · have h := oif_neg c6 h
    refine lv_aload_n hx hb dX12_delay_28 rfl (lv_at hl 0 rfl) ?_
    refine m_get E G 17 (v := .ref (ad 17)) (by decide) (.tail _ qM_14) rfl dX12_delay_29 rfl ?_
    refine lv_bipush (v := 12) hx hb dX12_delay_32 (by decide) ?_
    refine lv_iload_n hx hb dX12_delay_34 rfl (lv_at hl 2 rfl) ?_
    refine lv_imul hx hb dX12_delay_35 ?_
    refine lv_topi (fun v7 ev7 => ?_)
    have h := elet_at ev7 h
    clear ev7
    refine lv_iload_n hx hb dX12_delay_36 rfl (lv_at hl 1 rfl) ?_
    refine lv_iadd hx hb dX12_delay_37 ?_
    refine lv_topi (fun v8 ev8 => ?_)
    have h := elet_at ev8 h
    clear ev8
    obtain ⟨g9, h⟩ := oif_some h
    refine m_iald E G 17 9 (n := 1728) (k := v8.toNatClampNeg) rfl (inb_k g9).1 (inb_k g9).2 (by decide) dX12_delay_38 ?_
    refine lv_topi (fun v10 ev10 => ?_)
    have h := elet_at ev10 h
    clear ev10
    refine lv_goto (tgt := 43) hx hb dX12_delay_39 (by decide) ?_
    have hl := lv_sub hl [] rfl
    exact tr_delay_b43 E hA hR hml kr43 _ _ _ _ _ h G hl
def fr_delay_b21  (S : MS) (l1 : Int32) (l2 : Int32) : Option (Int32 × MS) := fr_delay_b22 S 0 l1 l2
set_option maxHeartbeats 4000000 in
set_option maxRecDepth 100000 in
theorem tr_delay_b21 {p : Program} {l : Launch} {e : Env} {s : State} {m : MethodId} {args : Array Value} {below : List Frame} {meth : Method} {c : Code} {Q : State → Prop} {D : va_G} {A : Nat → Prop} {H0 : Heap} {cI cJ cZ : ClassId} {ad : Nat → Nat} {r1 : Int32} {S1 : MS} (E : mE p c cX12_delay s m args (Cond.code yX12_delay cX12_delay 3 (some .int) :: wsM) D cI cJ cZ) (hA : ∀ q : Nat, H0.size ≤ q → A q) (hR : sR s) (hml : c.maxLocals = 3) (kr43 : ∀ (H : Heap) (locs : List Loc) (ls : Array Slot), mG D cI cJ cZ ad A H0 H locs S1 → W p l e { frames := 3, cells := 0, slots := 0, locals := 43 } s m args below meth c H locs 0 0 Q (F0 m 43 ls [.int r1])) : ∀ (S : MS) (H : Heap) (locs : List Loc) (ls : Array Slot) (l1 : Int32) (l2 : Int32), fr_delay_b21 S l1 l2 = some (r1, S1) → mG D cI cJ cZ ad A H0 H locs S → lv_has ls 3 [(0, .ref (ad 0)), (1, .int l1), (2, .int l2)] → W p l e { frames := 3, cells := 0, slots := 0, locals := 43 } s m args below meth c H locs 0 0 Q (F0 m 21 ls [.ref (ad 0)]) := by
  have hx := E.1
  have hb := E.2.1
  have hts := E.2.2.1
  have hown := E.2.2.2.1
  have hK := E.2.2.2.2.1
  intro S H locs ls l1 l2 h G hl
  unfold fr_delay_b21 at h
  refine lv_iconst (v := 0) hx hb dX12_delay_21 (by decide) ?_
  have hl := lv_sub hl [0, 1, 2] rfl
  exact tr_delay_b22 E hA hR hml kr43 _ _ _ _ _ _ _ h G hl
def fr_delay (S : MS) (a0 : Int32) (a1 : Int32) : Option (Int32 × MS) := obind2 (fr_isMic S a0) fun r5 S2 => if r5 = 0 then (fr_delay_b21 S2 a0 a1) else (obind2 (fr_isCell S2 a1) fun r10 S7 => if r10 = 0 then (fr_delay_b21 S7 a0 a1) else (fr_delay_b22 S7 1 a0 a1))
set_option maxHeartbeats 4000000 in
set_option maxRecDepth 100000 in
theorem tr_delay (l : Launch) (D : va_G) (cI cJ cZ : ClassId) (ad : Nat → Nat) (S : MS) (a0 : Int32) (a1 : Int32) {r1 : Int32} {S1 : MS} (h : fr_delay S a0 a1 = some (r1, S1)) : mCi l yX12_delay (Cond.code yX12_delay cX12_delay 3 (some .int) :: wsM) 3 43 D cI cJ cZ ad S [.int a0, .int a1] (fun r S9 => r = r1 ∧ S9 = S1) := by
  intro sz
  refine pro_in (cc := cX12_delay) (maxL := 3) (ret := (some .int)) (by exact pn_RX12) rfl (by exact Nat.le_of_ble_eq_true rfl) (fun p e s m below meth c ls hx hb hr hts hown hlocks hml hv hl => ?_)
  obtain ⟨hsz, hP, hK, hD0, hR⟩ := hv
  subst hsz
  have hD := hD0.self (sz := s.heap.size)
  generalize hAe : va_A (MW cI cJ cZ ad S) s.heap.size = A at hD ⊢
  have hA : ∀ q : Nat, s.heap.size ≤ q → A q := fun q h => by rw [← hAe]; exact Or.inr h
  have G : mG D cI cJ cZ ad A s.heap s.heap [] S := ⟨hP, hD, va_S.rf⟩
  have E : mE p c cX12_delay s m ([.ref (ad 0), .int a0, .int a1] : List Value).toArray (Cond.code yX12_delay cX12_delay 3 (some .int) :: wsM) D cI cJ cZ := ⟨hx, hb, hts, hown, hK, fun w h => .tail _ (iM_x h)⟩
  have hl : lv_has ls 3 [(0, .ref (ad 0)), (1, .int a0), (2, .int a1)] := hl
  unfold fr_delay at h
  refine lv_aload_n hx hb dX12_delay_0 rfl (lv_at hl 0 rfl) ?_
  refine lv_aload_n hx hb dX12_delay_1 rfl (lv_at hl 0 rfl) ?_
  refine lv_iload_n hx hb dX12_delay_2 rfl (lv_at hl 1 rfl) ?_
  obtain ⟨r5, S2, eS2, h⟩ := obind2_some h
  refine m_calli (As := [.int a0]) (rest := [.ref (ad 0)]) E G hA hR hml (tr_isMic l D cI cJ cZ ad S a0 eS2) (cwV 1 hts (gmV qM_316 qM_317 qM_318 qM_35 qM_306) rfl rfl rfl (by decide +kernel) ⟨Nat.le_of_ble_eq_true rfl, Nat.le_of_ble_eq_true rfl⟩) rfl hl.1 rfl (lv_room (Nat.le_of_ble_eq_true rfl)) dX12_delay_3 ⟨Nat.zero_le _, Nat.zero_le _⟩ (fun q3 S4 H locs hq G => ?_)
  obtain ⟨hq1, hq2⟩ := hq
  rw [hq2] at G
  refine lv_to hq1 ?_
  clear hq1 hq2 eS2
  refine lv_if_eq (tgt := 21) hx hb dX12_delay_6 (by decide) (fun c6 => ?_) (fun c6 => ?_)
  · have h := oif_pos c6 h
    have hl := lv_sub hl [0, 1, 2] rfl
    exact tr_delay_b21 E hA hR hml (fun H locs ls G => W.iret (v := r1) hx hb hr (fun t ht hW => ⟨⟨r1, S1, rfl, ⟨rfl, rfl⟩, ⟨by rw [ht]; exact G.1, va_K.moved hW.alike hK, G.2.1⟩⟩, G.2.2.F ht⟩) G.2.2.2.2 dX12_delay_43) _ _ _ _ _ _ h G hl
  · have h := oif_neg c6 h
    refine lv_aload_n hx hb dX12_delay_9 rfl (lv_at hl 0 rfl) ?_
    refine lv_iload_n hx hb dX12_delay_10 rfl (lv_at hl 2 rfl) ?_
    obtain ⟨r10, S7, eS7, h⟩ := obind2_some h
    refine m_calli (As := [.int a1]) (rest := [.ref (ad 0)]) E G hA hR hml (tr_isCell l D cI cJ cZ ad S2 a1 eS7) (cwV 1 hts (gmV qM_326 qM_327 qM_328 qM_35 qM_307) rfl rfl rfl (by decide +kernel) ⟨Nat.le_of_ble_eq_true rfl, Nat.le_of_ble_eq_true rfl⟩) rfl hl.1 rfl (lv_room (Nat.le_of_ble_eq_true rfl)) dX12_delay_11 ⟨Nat.zero_le _, Nat.zero_le _⟩ (fun q8 S9 H locs hq G => ?_)
    obtain ⟨hq1, hq2⟩ := hq
    rw [hq2] at G
    refine lv_to hq1 ?_
    clear hq1 hq2 eS7
    refine lv_if_eq (tgt := 21) hx hb dX12_delay_14 (by decide) (fun c11 => ?_) (fun c11 => ?_)
    · have h := oif_pos c11 h
      have hl := lv_sub hl [0, 1, 2] rfl
      exact tr_delay_b21 E hA hR hml (fun H locs ls G => W.iret (v := r1) hx hb hr (fun t ht hW => ⟨⟨r1, S1, rfl, ⟨rfl, rfl⟩, ⟨by rw [ht]; exact G.1, va_K.moved hW.alike hK, G.2.1⟩⟩, G.2.2.F ht⟩) G.2.2.2.2 dX12_delay_43) _ _ _ _ _ _ h G hl
    · have h := oif_neg c11 h
      refine lv_iconst (v := 1) hx hb dX12_delay_17 (by decide) ?_
      refine lv_goto (tgt := 22) hx hb dX12_delay_18 (by decide) ?_
      have hl := lv_sub hl [0, 1, 2] rfl
      exact tr_delay_b22 E hA hR hml (fun H locs ls G => W.iret (v := r1) hx hb hr (fun t ht hW => ⟨⟨r1, S1, rfl, ⟨rfl, rfl⟩, ⟨by rw [ht]; exact G.1, va_K.moved hW.alike hK, G.2.1⟩⟩, G.2.2.F ht⟩) G.2.2.2.2 dX12_delay_43) _ _ _ _ _ _ _ h G hl
def fr_isPoint_b31   (s0 : Int32) : Option (Int32) := oif (s0 = 0 ∨ s0 = 1) <| some s0
set_option maxHeartbeats 4000000 in
set_option maxRecDepth 100000 in
theorem tr_isPoint_b31 {p : Program} {l : Launch} {e : Env} {s : State} {m : MethodId} {args : Array Value} {below : List Frame} {meth : Method} {c : Code} {Q : State → Prop} {r1 : Int32} (E : p.tables.exec = Jvm.exec ∧ c.code = cX12_isPoint ∧ (∀ w ∈ (Cond.code yX12_isPoint cX12_isPoint 2 (some .boolean) :: wsM), w.before args s = true) ∧ s.vm.findClass RX12 = some m.cls) (hml : c.maxLocals = 2) (kr31 : ∀ (ls : Array Slot), (r1 = 0 ∨ r1 = 1) → W p l e { frames := 2, cells := 0, slots := 0, locals := 22 } s m args below meth c s.heap [] 0 0 Q (F0 m 31 ls [.int r1])) : ∀ (ls : Array Slot) (s0 : Int32), fr_isPoint_b31 s0 = some r1 → lv_has ls 2 [] → W p l e { frames := 2, cells := 0, slots := 0, locals := 22 } s m args below meth c s.heap [] 0 0 Q (F0 m 31 ls [.int s0]) := by
  have hx := E.1
  have hb := E.2.1
  have hts := E.2.2.1
  have hown := E.2.2.2
  intro ls s0 h hl
  unfold fr_isPoint_b31 at h
  obtain ⟨gz, h⟩ := oif_some h
  have gr : r1 = 0 ∨ r1 = 1 := by rw [← osome1 h]; exact gz
  refine lv_to (osome1 h) ?_
  exact kr31 _ gr
def fr_isPoint_b30    : Option (Int32) := fr_isPoint_b31 0
set_option maxHeartbeats 4000000 in
set_option maxRecDepth 100000 in
theorem tr_isPoint_b30 {p : Program} {l : Launch} {e : Env} {s : State} {m : MethodId} {args : Array Value} {below : List Frame} {meth : Method} {c : Code} {Q : State → Prop} {r1 : Int32} (E : p.tables.exec = Jvm.exec ∧ c.code = cX12_isPoint ∧ (∀ w ∈ (Cond.code yX12_isPoint cX12_isPoint 2 (some .boolean) :: wsM), w.before args s = true) ∧ s.vm.findClass RX12 = some m.cls) (hml : c.maxLocals = 2) (kr31 : ∀ (ls : Array Slot), (r1 = 0 ∨ r1 = 1) → W p l e { frames := 2, cells := 0, slots := 0, locals := 22 } s m args below meth c s.heap [] 0 0 Q (F0 m 31 ls [.int r1])) : ∀ (ls : Array Slot), fr_isPoint_b30 = some r1 → lv_has ls 2 [] → W p l e { frames := 2, cells := 0, slots := 0, locals := 22 } s m args below meth c s.heap [] 0 0 Q (F0 m 30 ls []) := by
  have hx := E.1
  have hb := E.2.1
  have hts := E.2.2.1
  have hown := E.2.2.2
  intro ls h hl
  unfold fr_isPoint_b30 at h
  refine lv_iconst (v := 0) hx hb dX12_isPoint_30 (by decide) ?_
  have hl := lv_sub hl [] rfl
  exact tr_isPoint_b31 E hml kr31 _ _ h hl
def fr_isPoint  (a0 : Int32) (a1 : Int32) : Option (Int32) := obind (fr_in a0 (-9999) 9999) fun r2 => if r2 = 0 then (fr_isPoint_b30) else (obind (fr_in a1 (-9999) 9999) fun r5 => if r5 = 0 then (fr_isPoint_b30) else (fr_isPoint_b31 1))
set_option maxHeartbeats 4000000 in
set_option maxRecDepth 100000 in
theorem tr_isPoint (l : Launch) (a0 : Int32) (a1 : Int32) {r1 : Int32} (h : fr_isPoint a0 a1 = some r1) : Met l yX12_isPoint (Cond.code yX12_isPoint cX12_isPoint 2 (some .boolean) :: wsM) { frames := 2, cells := 0, slots := 0, locals := 22 } (va_Pc [.int a0, .int a1] (fun _ => True)) (vp_Si (fun r => r = r1)) 0 0 (fun _ => False) := by
  refine pro_in (cc := cX12_isPoint) (maxL := 2) (ret := (some .boolean)) (by exact pn_RX12) rfl (by exact Nat.le_of_ble_eq_true rfl) (fun p e s m below meth c ls hx hb hr hts hown hlocks hml hv hl => ?_)
  have E : p.tables.exec = Jvm.exec ∧ c.code = cX12_isPoint ∧ (∀ w ∈ (Cond.code yX12_isPoint cX12_isPoint 2 (some .boolean) :: wsM), w.before ([.int a0, .int a1] : List Value).toArray s = true) ∧ s.vm.findClass RX12 = some m.cls := ⟨hx, hb, hts, hown⟩
  have hl : lv_has ls 2 [(0, .int a0), (1, .int a1)] := hl
  unfold fr_isPoint at h
  refine lv_iload_n hx hb dX12_isPoint_0 rfl (lv_at hl 0 rfl) ?_
  refine lv_sipush (v := (-9999)) hx hb dX12_isPoint_1 (by decide) ?_
  refine lv_sipush (v := 9999) hx hb dX12_isPoint_4 (by decide) ?_
  obtain ⟨r2, er2, h⟩ := obind_some h
  refine m_stat (As := [.int a0, .int (-9999), .int 9999]) (rest := []) ⟨hx, hb, hml, hown, hts⟩ (tr_in l a0 (-9999) 9999 er2) (cwS 3 hts (gmS qM_52 qM_53 qM_35 qM_27) rfl rfl rfl (by decide +kernel) ⟨Nat.le_of_ble_eq_true rfl, Nat.le_of_ble_eq_true rfl⟩) rfl hl.1 rfl (lv_room (Nat.le_of_ble_eq_true rfl)) dX12_isPoint_7 ⟨Nat.zero_le _, Nat.zero_le _⟩ (fun q3 hq => ?_)
  refine lv_to hq ?_
  clear hq er2
  refine lv_if_eq (tgt := 30) hx hb dX12_isPoint_10 (by decide) (fun c4 => ?_) (fun c4 => ?_)
  · have h := oif_pos c4 h
    have hl := lv_sub hl [] rfl
    exact tr_isPoint_b30 E hml (fun ls gz => W.zret (v := r1) hx hb hr (nar01 gz) (fun t ht hW => ⟨r1, rfl, rfl, ht⟩) (fun _ h => absurd h List.not_mem_nil) dX12_isPoint_31) _ h hl
  · have h := oif_neg c4 h
    refine lv_iload_n hx hb dX12_isPoint_13 rfl (lv_at hl 1 rfl) ?_
    refine lv_sipush (v := (-9999)) hx hb dX12_isPoint_14 (by decide) ?_
    refine lv_sipush (v := 9999) hx hb dX12_isPoint_17 (by decide) ?_
    obtain ⟨r5, er5, h⟩ := obind_some h
    refine m_stat (As := [.int a1, .int (-9999), .int 9999]) (rest := []) ⟨hx, hb, hml, hown, hts⟩ (tr_in l a1 (-9999) 9999 er5) (cwS 3 hts (gmS qM_52 qM_53 qM_35 qM_27) rfl rfl rfl (by decide +kernel) ⟨Nat.le_of_ble_eq_true rfl, Nat.le_of_ble_eq_true rfl⟩) rfl hl.1 rfl (lv_room (Nat.le_of_ble_eq_true rfl)) dX12_isPoint_20 ⟨Nat.zero_le _, Nat.zero_le _⟩ (fun q6 hq => ?_)
    refine lv_to hq ?_
    clear hq er5
    refine lv_if_eq (tgt := 30) hx hb dX12_isPoint_23 (by decide) (fun c7 => ?_) (fun c7 => ?_)
    · have h := oif_pos c7 h
      have hl := lv_sub hl [] rfl
      exact tr_isPoint_b30 E hml (fun ls gz => W.zret (v := r1) hx hb hr (nar01 gz) (fun t ht hW => ⟨r1, rfl, rfl, ht⟩) (fun _ h => absurd h List.not_mem_nil) dX12_isPoint_31) _ h hl
    · have h := oif_neg c7 h
      refine lv_iconst (v := 1) hx hb dX12_isPoint_26 (by decide) ?_
      refine lv_goto (tgt := 31) hx hb dX12_isPoint_27 (by decide) ?_
      have hl := lv_sub hl [] rfl
      exact tr_isPoint_b31 E hml (fun ls gz => W.zret (v := r1) hx hb hr (nar01 gz) (fun t ht hW => ⟨r1, rfl, rfl, ht⟩) (fun _ h => absurd h List.not_mem_nil) dX12_isPoint_31) _ _ h hl
def fr_delayTo_b37  (S : MS) (s0 : Int32) : Option (Int32 × MS) := some (s0, S)
set_option maxHeartbeats 4000000 in
set_option maxRecDepth 100000 in
theorem tr_delayTo_b37 {p : Program} {l : Launch} {e : Env} {s : State} {m : MethodId} {args : Array Value} {below : List Frame} {meth : Method} {c : Code} {Q : State → Prop} {D : va_G} {A : Nat → Prop} {H0 : Heap} {cI cJ cZ : ClassId} {ad : Nat → Nat} {r1 : Int32} {S1 : MS} (E : mE p c cX12_delayTo s m args (Cond.code yX12_delayTo cX12_delayTo 4 (some .int) :: wsM) D cI cJ cZ) (hA : ∀ q : Nat, H0.size ≤ q → A q) (hR : sR s) (hml : c.maxLocals = 4) (kr13 : ∀ (H : Heap) (locs : List Loc) (ls : Array Slot), mG D cI cJ cZ ad A H0 H locs S1 → W p l e { frames := 3, cells := 0, slots := 0, locals := 50 } s m args below meth c H locs 0 0 Q (F0 m 13 ls [.int r1])) (kr37 : ∀ (H : Heap) (locs : List Loc) (ls : Array Slot), mG D cI cJ cZ ad A H0 H locs S1 → W p l e { frames := 3, cells := 0, slots := 0, locals := 50 } s m args below meth c H locs 0 0 Q (F0 m 37 ls [.int r1])) : ∀ (S : MS) (H : Heap) (locs : List Loc) (ls : Array Slot) (s0 : Int32), fr_delayTo_b37 S s0 = some (r1, S1) → mG D cI cJ cZ ad A H0 H locs S → lv_has ls 4 [] → W p l e { frames := 3, cells := 0, slots := 0, locals := 50 } s m args below meth c H locs 0 0 Q (F0 m 37 ls [.int s0]) := by
  have hx := E.1
  have hb := E.2.1
  have hts := E.2.2.1
  have hown := E.2.2.2.1
  have hK := E.2.2.2.2.1
  intro S H locs ls s0 h G hl
  unfold fr_delayTo_b37 at h
  rw [(osome2 h).2] at G
  refine lv_to (osome2 h).1 ?_
  exact kr37 _ _ _ G
def fr_delayTo (S : MS) (a0 : Int32) (a1 : Int32) (a2 : Int32) : Option (Int32 × MS) := obind2 (fr_isMic S a0) fun r5 S2 => obind2 (fr_mayAsk S2 r5) fun r9 S6 => if r9 = 0 then (some (0, S6)) else (obind (fr_isPoint a1 a2) fun r11 => if r11 = 0 then (obind2 (fr_throwsAt S6 3) fun r17 S14 => fr_delayTo_b37 S14 r17) else (obind2 (fr_delayFrom S6 a0 a1 a2) fun r21 S18 => fr_delayTo_b37 S18 r21))
set_option maxHeartbeats 4000000 in
set_option maxRecDepth 100000 in
theorem tr_delayTo (l : Launch) (D : va_G) (cI cJ cZ : ClassId) (ad : Nat → Nat) (S : MS) (a0 : Int32) (a1 : Int32) (a2 : Int32) {r1 : Int32} {S1 : MS} (h : fr_delayTo S a0 a1 a2 = some (r1, S1)) : mCi l yX12_delayTo (Cond.code yX12_delayTo cX12_delayTo 4 (some .int) :: wsM) 3 50 D cI cJ cZ ad S [.int a0, .int a1, .int a2] (fun r S9 => r = r1 ∧ S9 = S1) := by
  intro sz
  refine pro_in (cc := cX12_delayTo) (maxL := 4) (ret := (some .int)) (by exact pn_RX12) rfl (by exact Nat.le_of_ble_eq_true rfl) (fun p e s m below meth c ls hx hb hr hts hown hlocks hml hv hl => ?_)
  obtain ⟨hsz, hP, hK, hD0, hR⟩ := hv
  subst hsz
  have hD := hD0.self (sz := s.heap.size)
  generalize hAe : va_A (MW cI cJ cZ ad S) s.heap.size = A at hD ⊢
  have hA : ∀ q : Nat, s.heap.size ≤ q → A q := fun q h => by rw [← hAe]; exact Or.inr h
  have G : mG D cI cJ cZ ad A s.heap s.heap [] S := ⟨hP, hD, va_S.rf⟩
  have E : mE p c cX12_delayTo s m ([.ref (ad 0), .int a0, .int a1, .int a2] : List Value).toArray (Cond.code yX12_delayTo cX12_delayTo 4 (some .int) :: wsM) D cI cJ cZ := ⟨hx, hb, hts, hown, hK, fun w h => .tail _ (iM_x h)⟩
  have hl : lv_has ls 4 [(0, .ref (ad 0)), (1, .int a0), (2, .int a1), (3, .int a2)] := hl
  unfold fr_delayTo at h
  refine lv_aload_n hx hb dX12_delayTo_0 rfl (lv_at hl 0 rfl) ?_
  refine lv_aload_n hx hb dX12_delayTo_1 rfl (lv_at hl 0 rfl) ?_
  refine lv_iload_n hx hb dX12_delayTo_2 rfl (lv_at hl 1 rfl) ?_
  obtain ⟨r5, S2, eS2, h⟩ := obind2_some h
  refine m_calli (As := [.int a0]) (rest := [.ref (ad 0)]) E G hA hR hml (tr_isMic l D cI cJ cZ ad S a0 eS2) (cwV 1 hts (gmV qM_316 qM_317 qM_318 qM_35 qM_306) rfl rfl rfl (by decide +kernel) ⟨Nat.le_of_ble_eq_true rfl, Nat.le_of_ble_eq_true rfl⟩) rfl hl.1 rfl (lv_room (Nat.le_of_ble_eq_true rfl)) dX12_delayTo_3 ⟨Nat.zero_le _, Nat.zero_le _⟩ (fun q3 S4 H locs hq G => ?_)
  obtain ⟨hq1, hq2⟩ := hq
  rw [hq2] at G
  refine lv_to hq1 ?_
  clear hq1 hq2 eS2
  obtain ⟨r9, S6, eS6, h⟩ := obind2_some h
  refine m_calli (As := [.int r5]) (rest := []) E G hA hR hml (tr_mayAsk l D cI cJ cZ ad S2 r5 eS6) (cwV 1 hts (gmV qM_319 qM_320 qM_321 qM_35 qM_304) rfl rfl rfl (by decide +kernel) ⟨Nat.le_of_ble_eq_true rfl, Nat.le_of_ble_eq_true rfl⟩) rfl hl.1 rfl (lv_room (Nat.le_of_ble_eq_true rfl)) dX12_delayTo_6 ⟨Nat.zero_le _, Nat.zero_le _⟩ (fun q7 S8 H locs hq G => ?_)
  obtain ⟨hq1, hq2⟩ := hq
  rw [hq2] at G
  refine lv_to hq1 ?_
  clear hq1 hq2 eS6
  refine lv_if_ne (tgt := 14) hx hb dX12_delayTo_9 (by decide) (fun c10 => ?_) (fun c10 => ?_)
  · have h := oif_neg c10 h
    refine lv_iload_n hx hb dX12_delayTo_14 rfl (lv_at hl 2 rfl) ?_
    refine lv_iload_n hx hb dX12_delayTo_15 rfl (lv_at hl 3 rfl) ?_
    obtain ⟨r11, er11, h⟩ := obind_some h
    refine m_stat (As := [.int a1, .int a2]) (rest := []) ⟨hx, hb, hml, hown, hts⟩ (tr_isPoint l a1 a2 er11) (cwS 2 hts (gmS qM_343 qM_344 qM_35 qM_341) rfl rfl rfl (by decide +kernel) ⟨Nat.le_of_ble_eq_true rfl, Nat.le_of_ble_eq_true rfl⟩) rfl hl.1 rfl (lv_room (Nat.le_of_ble_eq_true rfl)) dX12_delayTo_16 ⟨Nat.zero_le _, Nat.zero_le _⟩ (fun q12 hq => ?_)
    refine lv_to hq ?_
    clear hq er11
    refine lv_if_eq (tgt := 32) hx hb dX12_delayTo_19 (by decide) (fun c13 => ?_) (fun c13 => ?_)
    · have h := oif_pos c13 h
      refine lv_aload_n hx hb dX12_delayTo_32 rfl (lv_at hl 0 rfl) ?_
      refine lv_iconst (v := 3) hx hb dX12_delayTo_33 (by decide) ?_
      obtain ⟨r17, S14, eS14, h⟩ := obind2_some h
      refine m_calli (As := [.int 3]) (rest := []) E G hA hR hml (tr_throwsAt l D cI cJ cZ ad S6 3 eS14) (cwV 1 hts (gmV qM_195 qM_196 qM_197 qM_35 qM_28) rfl rfl rfl (by decide +kernel) ⟨Nat.le_of_ble_eq_true rfl, Nat.le_of_ble_eq_true rfl⟩) rfl hl.1 rfl (lv_room (Nat.le_of_ble_eq_true rfl)) dX12_delayTo_34 ⟨Nat.zero_le _, Nat.zero_le _⟩ (fun q15 S16 H locs hq G => ?_)
      obtain ⟨hq1, hq2⟩ := hq
      rw [hq2] at G
      refine lv_to hq1 ?_
      clear hq1 hq2 eS14
      have hl := lv_sub hl [] rfl
      exact tr_delayTo_b37 E hA hR hml (fun H locs ls G => W.iret (v := r1) hx hb hr (fun t ht hW => ⟨⟨r1, S1, rfl, ⟨rfl, rfl⟩, ⟨by rw [ht]; exact G.1, va_K.moved hW.alike hK, G.2.1⟩⟩, G.2.2.F ht⟩) G.2.2.2.2 dX12_delayTo_13) (fun H locs ls G => W.iret (v := r1) hx hb hr (fun t ht hW => ⟨⟨r1, S1, rfl, ⟨rfl, rfl⟩, ⟨by rw [ht]; exact G.1, va_K.moved hW.alike hK, G.2.1⟩⟩, G.2.2.F ht⟩) G.2.2.2.2 dX12_delayTo_37) _ _ _ _ _ h G hl
    · have h := oif_neg c13 h
      refine lv_aload_n hx hb dX12_delayTo_22 rfl (lv_at hl 0 rfl) ?_
      refine lv_iload_n hx hb dX12_delayTo_23 rfl (lv_at hl 1 rfl) ?_
      refine lv_iload_n hx hb dX12_delayTo_24 rfl (lv_at hl 2 rfl) ?_
      refine lv_iload_n hx hb dX12_delayTo_25 rfl (lv_at hl 3 rfl) ?_
      obtain ⟨r21, S18, eS18, h⟩ := obind2_some h
      refine m_calli (As := [.int a0, .int a1, .int a2]) (rest := []) E G hA hR hml (tr_delayFrom l D cI cJ cZ ad S6 a0 a1 a2 eS18) (cwV 3 hts (gmV qM_212 qM_213 qM_214 qM_35 qM_215) rfl rfl rfl (by decide +kernel) ⟨Nat.le_of_ble_eq_true rfl, Nat.le_of_ble_eq_true rfl⟩) rfl hl.1 rfl (lv_room (Nat.le_of_ble_eq_true rfl)) dX12_delayTo_26 ⟨Nat.zero_le _, Nat.zero_le _⟩ (fun q19 S20 H locs hq G => ?_)
      obtain ⟨hq1, hq2⟩ := hq
      rw [hq2] at G
      refine lv_to hq1 ?_
      clear hq1 hq2 eS18
      refine lv_goto (tgt := 37) hx hb dX12_delayTo_29 (by decide) ?_
      have hl := lv_sub hl [] rfl
      exact tr_delayTo_b37 E hA hR hml (fun H locs ls G => W.iret (v := r1) hx hb hr (fun t ht hW => ⟨⟨r1, S1, rfl, ⟨rfl, rfl⟩, ⟨by rw [ht]; exact G.1, va_K.moved hW.alike hK, G.2.1⟩⟩, G.2.2.F ht⟩) G.2.2.2.2 dX12_delayTo_13) (fun H locs ls G => W.iret (v := r1) hx hb hr (fun t ht hW => ⟨⟨r1, S1, rfl, ⟨rfl, rfl⟩, ⟨by rw [ht]; exact G.1, va_K.moved hW.alike hK, G.2.1⟩⟩, G.2.2.F ht⟩) G.2.2.2.2 dX12_delayTo_37) _ _ _ _ _ h G hl
  · have h := oif_pos c10 h
    refine lv_iconst (v := 0) hx hb dX12_delayTo_12 (by decide) ?_
    exact W.iret (v := 0) hx hb hr (fun t ht hW => ⟨⟨0, S6, rfl, osome2 h, ⟨by rw [ht]; exact G.1, va_K.moved hW.alike hK, G.2.1⟩⟩, G.2.2.F ht⟩) G.2.2.2.2 dX12_delayTo_13
def fr_activeCount_b32 (k4 : MS → Int32 → Int32 → Option (Int32 × MS)) (S : MS) (s0 : Int32) (s1 : Int32) (l2 : Int32) : Option (Int32 × MS) := elet (s1 + s0) fun v2 => elet (l2 + Int32.ofInt (1)) fun v3 => k4 S v2 v3
set_option maxHeartbeats 4000000 in
set_option maxRecDepth 100000 in
theorem tr_activeCount_b32 {p : Program} {l : Launch} {e : Env} {s : State} {m : MethodId} {args : Array Value} {below : List Frame} {meth : Method} {c : Code} {Q : State → Prop} {D : va_G} {A : Nat → Prop} {H0 : Heap} {cI cJ cZ : ClassId} {ad : Nat → Nat} {r1 : Int32} {S1 : MS} (E : mE p c cX12_activeCount s m args (Cond.code yX12_activeCount cX12_activeCount 3 (some .int) :: wsM) D cI cJ cZ) (hA : ∀ q : Nat, H0.size ≤ q → A q) (hR : sR s) (hml : c.maxLocals = 3) (kr41 : ∀ (H : Heap) (locs : List Loc) (ls : Array Slot), mG D cI cJ cZ ad A H0 H locs S1 → W p l e { frames := 2, cells := 0, slots := 0, locals := 22 } s m args below meth c H locs 0 0 Q (F0 m 41 ls [.int r1])) {k4 : MS → Int32 → Int32 → Option (Int32 × MS)} (hk4 : ∀ (S : MS) (H : Heap) (locs : List Loc) (ls : Array Slot) (l1 : Int32) (l2 : Int32), k4 S l1 l2 = some (r1, S1) → mG D cI cJ cZ ad A H0 H locs S → lv_has ls 3 [(0, .ref (ad 0)), (1, .int l1), (2, .int l2)] → W p l e { frames := 2, cells := 0, slots := 0, locals := 22 } s m args below meth c H locs 0 0 Q (F0 m 4 ls [])) : ∀ (S : MS) (H : Heap) (locs : List Loc) (ls : Array Slot) (s0 : Int32) (s1 : Int32) (l2 : Int32), fr_activeCount_b32 k4 S s0 s1 l2 = some (r1, S1) → mG D cI cJ cZ ad A H0 H locs S → lv_has ls 3 [(0, .ref (ad 0)), (2, .int l2)] → W p l e { frames := 2, cells := 0, slots := 0, locals := 22 } s m args below meth c H locs 0 0 Q (F0 m 32 ls [.int s0, .int s1]) := by
  have hx := E.1
  have hb := E.2.1
  have hts := E.2.2.1
  have hown := E.2.2.2.1
  have hK := E.2.2.2.2.1
  intro S H locs ls s0 s1 l2 h G hl
  unfold fr_activeCount_b32 at h
  refine lv_iadd hx hb dX12_activeCount_32 ?_
  refine lv_topi (fun v2 ev2 => ?_)
  have h := elet_at ev2 h
  clear ev2
  refine lv_istore_n (lv' := [(1, .int v2), (0, .ref (ad 0)), (2, .int l2)]) hx hb dX12_activeCount_33 rfl hl (by decide) rfl (fun ls hl => ?_)
  obtain ⟨v3, ev3, h⟩ := elet_some h
  refine lv_iinc (v := v3) (lv' := [(2, .int v3), (1, .int v2), (0, .ref (ad 0))]) hx hb dX12_activeCount_34 hl (k := 2) rfl ev3.symm (by decide) rfl (fun ls hl => ?_)
  refine lv_goto (tgt := 4) hx hb dX12_activeCount_37 (by decide) ?_
  have hl := lv_sub hl [2, 1, 0] rfl
  exact hk4 _ _ _ _ _ _ h G hl
def fr_activeCount_b4  : Nat → MS → Int32 → Int32 → Option (Int32 × MS)
  | 0, _, _, _ => none
  | n + 1, S, l1, l2 => elet (S.2.1 10 4) fun v2 => if v2 ≤ l2 then (some (l1, S)) else (obind2 (fr_hears_12 S l2) fun r7 S4 => if r7 = 0 then (fr_activeCount_b32 (fr_activeCount_b4 n) S4 0 l1 l2) else (fr_activeCount_b32 (fr_activeCount_b4 n) S4 1 l1 l2))
set_option maxHeartbeats 4000000 in
set_option maxRecDepth 100000 in
theorem tr_activeCount_b4 {p : Program} {l : Launch} {e : Env} {s : State} {m : MethodId} {args : Array Value} {below : List Frame} {meth : Method} {c : Code} {Q : State → Prop} {D : va_G} {A : Nat → Prop} {H0 : Heap} {cI cJ cZ : ClassId} {ad : Nat → Nat} {r1 : Int32} {S1 : MS} (E : mE p c cX12_activeCount s m args (Cond.code yX12_activeCount cX12_activeCount 3 (some .int) :: wsM) D cI cJ cZ) (hA : ∀ q : Nat, H0.size ≤ q → A q) (hR : sR s) (hml : c.maxLocals = 3) (kr41 : ∀ (H : Heap) (locs : List Loc) (ls : Array Slot), mG D cI cJ cZ ad A H0 H locs S1 → W p l e { frames := 2, cells := 0, slots := 0, locals := 22 } s m args below meth c H locs 0 0 Q (F0 m 41 ls [.int r1])) : ∀ n : Nat, ∀ (S : MS) (H : Heap) (locs : List Loc) (ls : Array Slot) (l1 : Int32) (l2 : Int32), fr_activeCount_b4 n S l1 l2 = some (r1, S1) → mG D cI cJ cZ ad A H0 H locs S → lv_has ls 3 [(0, .ref (ad 0)), (1, .int l1), (2, .int l2)] → W p l e { frames := 2, cells := 0, slots := 0, locals := 22 } s m args below meth c H locs 0 0 Q (F0 m 4 ls []) := by
  have hx := E.1
  have hb := E.2.1
  have hts := E.2.2.1
  have hown := E.2.2.2.1
  have hK := E.2.2.2.2.1
  intro n
  induction n with
  | zero =>
    intro S H locs ls l1 l2 h
    have h : (none : Option (Int32 × MS)) = some (r1, S1) := h
    cases h
  | succ n ih =>
    intro S H locs ls l1 l2 h G hl
    unfold fr_activeCount_b4 at h
    refine lv_iload_n hx hb dX12_activeCount_4 rfl (lv_at hl 2 rfl) ?_
    refine lv_aload_n hx hb dX12_activeCount_5 rfl (lv_at hl 0 rfl) ?_
    refine m_get E G 10 (v := .ref (ad 10)) (by decide) (.tail _ qM_7) rfl dX12_activeCount_6 rfl ?_
    refine lv_iconst (v := 4) hx hb dX12_activeCount_9 (by decide) ?_
    refine m_iald E G 10 2 (n := 131) (k := 4) rfl rfl (by decide) (by decide) dX12_activeCount_10 ?_
    refine lv_topi (fun v2 ev2 => ?_)
    have h := elet_at ev2 h
    clear ev2
    refine lv_icmp_ge (tgt := 40) hx hb dX12_activeCount_11 (by decide) (fun c3 => ?_) (fun c3 => ?_)
    · have h := oif_pos c3 h
      refine lv_iload_n hx hb dX12_activeCount_40 rfl (lv_at hl 1 rfl) ?_
      rw [(osome2 h).2] at G
      refine lv_to (osome2 h).1 ?_
      exact kr41 _ _ _ G
    · have h := oif_neg c3 h
      refine lv_iload_n hx hb dX12_activeCount_14 rfl (lv_at hl 1 rfl) ?_
      refine lv_aload_n hx hb dX12_activeCount_15 rfl (lv_at hl 0 rfl) ?_
      refine lv_aload_n hx hb dX12_activeCount_16 rfl (lv_at hl 0 rfl) ?_
      refine m_get E G 12 (v := .ref (ad 12)) (by decide) (.tail _ qM_9) rfl dX12_activeCount_17 rfl ?_
      refine lv_iload_n hx hb dX12_activeCount_20 rfl (lv_at hl 2 rfl) ?_
      obtain ⟨r7, S4, eS4, h⟩ := obind2_some h
      refine m_calli (As := [.ref (ad 12), .int l2]) (rest := [.int l1]) E G hA hR hml (tr_hears_12 l D cI cJ cZ ad S l2 eS4) (cwV 2 hts (gmV qM_274 qM_275 qM_276 qM_35 qM_272) rfl rfl rfl (by decide +kernel) ⟨Nat.le_of_ble_eq_true rfl, Nat.le_of_ble_eq_true rfl⟩) rfl hl.1 rfl (lv_room (Nat.le_of_ble_eq_true rfl)) dX12_activeCount_21 ⟨Nat.zero_le _, Nat.zero_le _⟩ (fun q5 S6 H locs hq G => ?_)
      obtain ⟨hq1, hq2⟩ := hq
      rw [hq2] at G
      refine lv_to hq1 ?_
      clear hq1 hq2 eS4
      refine lv_if_eq (tgt := 31) hx hb dX12_activeCount_24 (by decide) (fun c8 => ?_) (fun c8 => ?_)
      · have h := oif_pos c8 h
        refine lv_iconst (v := 0) hx hb dX12_activeCount_31 (by decide) ?_
        have hl := lv_sub hl [0, 2] rfl
        exact tr_activeCount_b32 E hA hR hml kr41 ih _ _ _ _ _ _ _ h G hl
      · have h := oif_neg c8 h
        refine lv_iconst (v := 1) hx hb dX12_activeCount_27 (by decide) ?_
        refine lv_goto (tgt := 32) hx hb dX12_activeCount_28 (by decide) ?_
        have hl := lv_sub hl [0, 2] rfl
        exact tr_activeCount_b32 E hA hR hml kr41 ih _ _ _ _ _ _ _ h G hl
def fr_activeCount (S : MS)  : Option (Int32 × MS) := fr_activeCount_b4 16384 S 0 0
set_option maxHeartbeats 4000000 in
set_option maxRecDepth 100000 in
theorem tr_activeCount (l : Launch) (D : va_G) (cI cJ cZ : ClassId) (ad : Nat → Nat) (S : MS)  {r1 : Int32} {S1 : MS} (h : fr_activeCount S = some (r1, S1)) : mCi l yX12_activeCount (Cond.code yX12_activeCount cX12_activeCount 3 (some .int) :: wsM) 2 22 D cI cJ cZ ad S [] (fun r S9 => r = r1 ∧ S9 = S1) := by
  intro sz
  refine pro_in (cc := cX12_activeCount) (maxL := 3) (ret := (some .int)) (by exact pn_RX12) rfl (by exact Nat.le_of_ble_eq_true rfl) (fun p e s m below meth c ls hx hb hr hts hown hlocks hml hv hl => ?_)
  obtain ⟨hsz, hP, hK, hD0, hR⟩ := hv
  subst hsz
  have hD := hD0.self (sz := s.heap.size)
  generalize hAe : va_A (MW cI cJ cZ ad S) s.heap.size = A at hD ⊢
  have hA : ∀ q : Nat, s.heap.size ≤ q → A q := fun q h => by rw [← hAe]; exact Or.inr h
  have G : mG D cI cJ cZ ad A s.heap s.heap [] S := ⟨hP, hD, va_S.rf⟩
  have E : mE p c cX12_activeCount s m ([.ref (ad 0)] : List Value).toArray (Cond.code yX12_activeCount cX12_activeCount 3 (some .int) :: wsM) D cI cJ cZ := ⟨hx, hb, hts, hown, hK, fun w h => .tail _ (iM_x h)⟩
  have hl : lv_has ls 3 [(0, .ref (ad 0))] := hl
  unfold fr_activeCount at h
  refine lv_iconst (v := 0) hx hb dX12_activeCount_0 (by decide) ?_
  refine lv_istore_n (lv' := [(1, .int 0), (0, .ref (ad 0))]) hx hb dX12_activeCount_1 rfl hl (by decide) rfl (fun ls hl => ?_)
  refine lv_iconst (v := 0) hx hb dX12_activeCount_2 (by decide) ?_
  refine lv_istore_n (lv' := [(2, .int 0), (1, .int 0), (0, .ref (ad 0))]) hx hb dX12_activeCount_3 rfl hl (by decide) rfl (fun ls hl => ?_)
  have hl := lv_sub hl [2, 1, 0] rfl
  exact tr_activeCount_b4 E hA hR hml (fun H locs ls G => W.iret (v := r1) hx hb hr (fun t ht hW => ⟨⟨r1, S1, rfl, ⟨rfl, rfl⟩, ⟨by rw [ht]; exact G.1, va_K.moved hW.alike hK, G.2.1⟩⟩, G.2.2.F ht⟩) G.2.2.2.2 dX12_activeCount_41) _ _ _ _ _ _ _ h G hl
def fr_spread_b19  (S : MS)  : Option (Int32 × MS) := some (0, S)
set_option maxHeartbeats 4000000 in
set_option maxRecDepth 100000 in
theorem tr_spread_b19 {p : Program} {l : Launch} {e : Env} {s : State} {m : MethodId} {args : Array Value} {below : List Frame} {meth : Method} {c : Code} {Q : State → Prop} {D : va_G} {A : Nat → Prop} {H0 : Heap} {cI cJ cZ : ClassId} {ad : Nat → Nat} {r1 : Int32} {S1 : MS} (E : mE p c cX12_spread s m args (Cond.code yX12_spread cX12_spread 5 (some .int) :: wsM) D cI cJ cZ) (hA : ∀ q : Nat, H0.size ≤ q → A q) (hR : sR s) (hml : c.maxLocals = 5) (kr20 : ∀ (H : Heap) (locs : List Loc) (ls : Array Slot), mG D cI cJ cZ ad A H0 H locs S1 → W p l e { frames := 3, cells := 0, slots := 0, locals := 44 } s m args below meth c H locs 0 0 Q (F0 m 20 ls [.int r1])) (kr100 : ∀ (H : Heap) (locs : List Loc) (ls : Array Slot), mG D cI cJ cZ ad A H0 H locs S1 → W p l e { frames := 3, cells := 0, slots := 0, locals := 44 } s m args below meth c H locs 0 0 Q (F0 m 100 ls [.int r1])) : ∀ (S : MS) (H : Heap) (locs : List Loc) (ls : Array Slot), fr_spread_b19 S = some (r1, S1) → mG D cI cJ cZ ad A H0 H locs S → lv_has ls 5 [] → W p l e { frames := 3, cells := 0, slots := 0, locals := 44 } s m args below meth c H locs 0 0 Q (F0 m 19 ls []) := by
  have hx := E.1
  have hb := E.2.1
  have hts := E.2.2.1
  have hown := E.2.2.2.1
  have hK := E.2.2.2.2.1
  intro S H locs ls h G hl
  unfold fr_spread_b19 at h
  refine lv_iconst (v := 0) hx hb dX12_spread_19 (by decide) ?_
  rw [(osome2 h).2] at G
  refine lv_to (osome2 h).1 ?_
  exact kr20 _ _ _ G
def fr_spread_b91 (k30 : MS → Int32 → Int32 → Int32 → Int32 → Option (Int32 × MS)) (S : MS) (l1 : Int32) (l2 : Int32) (l3 : Int32) (l4 : Int32) : Option (Int32 × MS) := elet (l4 + Int32.ofInt (1)) fun v2 => k30 S l1 l2 l3 v2
set_option maxHeartbeats 4000000 in
set_option maxRecDepth 100000 in
theorem tr_spread_b91 {p : Program} {l : Launch} {e : Env} {s : State} {m : MethodId} {args : Array Value} {below : List Frame} {meth : Method} {c : Code} {Q : State → Prop} {D : va_G} {A : Nat → Prop} {H0 : Heap} {cI cJ cZ : ClassId} {ad : Nat → Nat} {r1 : Int32} {S1 : MS} (E : mE p c cX12_spread s m args (Cond.code yX12_spread cX12_spread 5 (some .int) :: wsM) D cI cJ cZ) (hA : ∀ q : Nat, H0.size ≤ q → A q) (hR : sR s) (hml : c.maxLocals = 5) (kr20 : ∀ (H : Heap) (locs : List Loc) (ls : Array Slot), mG D cI cJ cZ ad A H0 H locs S1 → W p l e { frames := 3, cells := 0, slots := 0, locals := 44 } s m args below meth c H locs 0 0 Q (F0 m 20 ls [.int r1])) (kr100 : ∀ (H : Heap) (locs : List Loc) (ls : Array Slot), mG D cI cJ cZ ad A H0 H locs S1 → W p l e { frames := 3, cells := 0, slots := 0, locals := 44 } s m args below meth c H locs 0 0 Q (F0 m 100 ls [.int r1])) {k30 : MS → Int32 → Int32 → Int32 → Int32 → Option (Int32 × MS)} (hk30 : ∀ (S : MS) (H : Heap) (locs : List Loc) (ls : Array Slot) (l1 : Int32) (l2 : Int32) (l3 : Int32) (l4 : Int32), k30 S l1 l2 l3 l4 = some (r1, S1) → mG D cI cJ cZ ad A H0 H locs S → lv_has ls 5 [(0, .ref (ad 0)), (1, .int l1), (2, .int l2), (3, .int l3), (4, .int l4)] → W p l e { frames := 3, cells := 0, slots := 0, locals := 44 } s m args below meth c H locs 0 0 Q (F0 m 30 ls [])) : ∀ (S : MS) (H : Heap) (locs : List Loc) (ls : Array Slot) (l1 : Int32) (l2 : Int32) (l3 : Int32) (l4 : Int32), fr_spread_b91 k30 S l1 l2 l3 l4 = some (r1, S1) → mG D cI cJ cZ ad A H0 H locs S → lv_has ls 5 [(0, .ref (ad 0)), (1, .int l1), (2, .int l2), (3, .int l3), (4, .int l4)] → W p l e { frames := 3, cells := 0, slots := 0, locals := 44 } s m args below meth c H locs 0 0 Q (F0 m 91 ls []) := by
  have hx := E.1
  have hb := E.2.1
  have hts := E.2.2.1
  have hown := E.2.2.2.1
  have hK := E.2.2.2.2.1
  intro S H locs ls l1 l2 l3 l4 h G hl
  unfold fr_spread_b91 at h
  obtain ⟨v2, ev2, h⟩ := elet_some h
  refine lv_iinc (v := v2) (lv' := [(4, .int v2), (0, .ref (ad 0)), (1, .int l1), (2, .int l2), (3, .int l3)]) hx hb dX12_spread_91 hl (k := 4) rfl ev2.symm (by decide) rfl (fun ls hl => ?_)
  refine lv_goto (tgt := 30) hx hb dX12_spread_94 (by decide) ?_
  have hl := lv_sub hl [1, 2, 3, 4, 0] rfl
  exact hk30 _ _ _ _ _ _ _ _ h G hl
def fr_spread_b30  : Nat → MS → Int32 → Int32 → Int32 → Int32 → Option (Int32 × MS)
  | 0, _, _, _, _, _ => none
  | n + 1, S, l1, l2, l3, l4 => elet (S.2.1 10 4) fun v2 => if v2 ≤ l4 then (elet (l3 - l2) fun v4 => some (v4, S)) else (obind2 (fr_hears_12 S l4) fun r8 S5 => if r8 = 0 then (fr_spread_b91 (fr_spread_b30 n) S5 l1 l2 l3 l4) else (elet (12 * l1) fun v10 => elet (v10 + l4) fun v11 => oif (inb v11 1728 = true) <| elet (S5.2.1 17 v11.toNatClampNeg) fun v13 => elet (if v13 < l2 then v13 else l2) fun v14 => elet (12 * l1) fun v15 => elet (v15 + l4) fun v16 => oif (inb v16 1728 = true) <| elet (S5.2.1 17 v16.toNatClampNeg) fun v18 => elet (if l3 < v18 then v18 else l3) fun v19 => fr_spread_b91 (fr_spread_b30 n) S5 l1 v14 v19 l4))
set_option maxHeartbeats 4000000 in
set_option maxRecDepth 100000 in
theorem tr_spread_b30 {p : Program} {l : Launch} {e : Env} {s : State} {m : MethodId} {args : Array Value} {below : List Frame} {meth : Method} {c : Code} {Q : State → Prop} {D : va_G} {A : Nat → Prop} {H0 : Heap} {cI cJ cZ : ClassId} {ad : Nat → Nat} {r1 : Int32} {S1 : MS} (E : mE p c cX12_spread s m args (Cond.code yX12_spread cX12_spread 5 (some .int) :: wsM) D cI cJ cZ) (hA : ∀ q : Nat, H0.size ≤ q → A q) (hR : sR s) (hml : c.maxLocals = 5) (kr20 : ∀ (H : Heap) (locs : List Loc) (ls : Array Slot), mG D cI cJ cZ ad A H0 H locs S1 → W p l e { frames := 3, cells := 0, slots := 0, locals := 44 } s m args below meth c H locs 0 0 Q (F0 m 20 ls [.int r1])) (kr100 : ∀ (H : Heap) (locs : List Loc) (ls : Array Slot), mG D cI cJ cZ ad A H0 H locs S1 → W p l e { frames := 3, cells := 0, slots := 0, locals := 44 } s m args below meth c H locs 0 0 Q (F0 m 100 ls [.int r1])) : ∀ n : Nat, ∀ (S : MS) (H : Heap) (locs : List Loc) (ls : Array Slot) (l1 : Int32) (l2 : Int32) (l3 : Int32) (l4 : Int32), fr_spread_b30 n S l1 l2 l3 l4 = some (r1, S1) → mG D cI cJ cZ ad A H0 H locs S → lv_has ls 5 [(0, .ref (ad 0)), (1, .int l1), (2, .int l2), (3, .int l3), (4, .int l4)] → W p l e { frames := 3, cells := 0, slots := 0, locals := 44 } s m args below meth c H locs 0 0 Q (F0 m 30 ls []) := by
  have hx := E.1
  have hb := E.2.1
  have hts := E.2.2.1
  have hown := E.2.2.2.1
  have hK := E.2.2.2.2.1
  intro n
  induction n with
  | zero =>
    intro S H locs ls l1 l2 l3 l4 h
    have h : (none : Option (Int32 × MS)) = some (r1, S1) := h
    cases h
  | succ n ih =>
    intro S H locs ls l1 l2 l3 l4 h G hl
    unfold fr_spread_b30 at h
    refine lv_iload hx hb dX12_spread_30 (lv_at hl 4 rfl) ?_
    refine lv_aload_n hx hb dX12_spread_32 rfl (lv_at hl 0 rfl) ?_
    refine m_get E G 10 (v := .ref (ad 10)) (by decide) (.tail _ qM_7) rfl dX12_spread_33 rfl ?_
    refine lv_iconst (v := 4) hx hb dX12_spread_36 (by decide) ?_
    refine m_iald E G 10 2 (n := 131) (k := 4) rfl rfl (by decide) (by decide) dX12_spread_37 ?_
    refine lv_topi (fun v2 ev2 => ?_)
    have h := elet_at ev2 h
    clear ev2
    refine lv_icmp_ge (tgt := 97) hx hb dX12_spread_38 (by decide) (fun c3 => ?_) (fun c3 => ?_)
    · have h := oif_pos c3 h
      refine lv_iload_n hx hb dX12_spread_97 rfl (lv_at hl 3 rfl) ?_
      refine lv_iload_n hx hb dX12_spread_98 rfl (lv_at hl 2 rfl) ?_
      refine lv_isub hx hb dX12_spread_99 ?_
      refine lv_topi (fun v4 ev4 => ?_)
      have h := elet_at ev4 h
      clear ev4
      rw [(osome2 h).2] at G
      refine lv_to (osome2 h).1 ?_
      exact kr100 _ _ _ G
    · have h := oif_neg c3 h
      refine lv_aload_n hx hb dX12_spread_41 rfl (lv_at hl 0 rfl) ?_
      refine lv_aload_n hx hb dX12_spread_42 rfl (lv_at hl 0 rfl) ?_
      refine m_get E G 12 (v := .ref (ad 12)) (by decide) (.tail _ qM_9) rfl dX12_spread_43 rfl ?_
      refine lv_iload hx hb dX12_spread_46 (lv_at hl 4 rfl) ?_
      obtain ⟨r8, S5, eS5, h⟩ := obind2_some h
      refine m_calli (As := [.ref (ad 12), .int l4]) (rest := []) E G hA hR hml (tr_hears_12 l D cI cJ cZ ad S l4 eS5) (cwV 2 hts (gmV qM_274 qM_275 qM_276 qM_35 qM_272) rfl rfl rfl (by decide +kernel) ⟨Nat.le_of_ble_eq_true rfl, Nat.le_of_ble_eq_true rfl⟩) rfl hl.1 rfl (lv_room (Nat.le_of_ble_eq_true rfl)) dX12_spread_48 ⟨Nat.zero_le _, Nat.zero_le _⟩ (fun q6 S7 H locs hq G => ?_)
      obtain ⟨hq1, hq2⟩ := hq
      rw [hq2] at G
      refine lv_to hq1 ?_
      clear hq1 hq2 eS5
      refine lv_if_ne (tgt := 57) hx hb dX12_spread_51 (by decide) (fun c9 => ?_) (fun c9 => ?_)
      · have h := oif_neg c9 h
        refine lv_iload_n hx hb dX12_spread_57 rfl (lv_at hl 2 rfl) ?_
        refine lv_aload_n hx hb dX12_spread_58 rfl (lv_at hl 0 rfl) ?_
        refine m_get E G 17 (v := .ref (ad 17)) (by decide) (.tail _ qM_14) rfl dX12_spread_59 rfl ?_
        refine lv_bipush (v := 12) hx hb dX12_spread_62 (by decide) ?_
        refine lv_iload_n hx hb dX12_spread_64 rfl (lv_at hl 1 rfl) ?_
        refine lv_imul hx hb dX12_spread_65 ?_
        refine lv_topi (fun v10 ev10 => ?_)
        have h := elet_at ev10 h
        clear ev10
        refine lv_iload hx hb dX12_spread_66 (lv_at hl 4 rfl) ?_
        refine lv_iadd hx hb dX12_spread_68 ?_
        refine lv_topi (fun v11 ev11 => ?_)
        have h := elet_at ev11 h
        clear ev11
        obtain ⟨g12, h⟩ := oif_some h
        refine m_iald E G 17 9 (n := 1728) (k := v11.toNatClampNeg) rfl (inb_k g12).1 (inb_k g12).2 (by decide) dX12_spread_69 ?_
        refine lv_topi (fun v13 ev13 => ?_)
        have h := elet_at ev13 h
        clear ev13
        refine va_mmin hx hb (hml.trans hl.1.symm) hown (hts _ (.tail _ qM_262)) (hts _ (.tail _ qM_263)) (hts _ (.tail _ qM_247)) (hts _ (.tail _ qM_264)) (Nat.le_of_ble_eq_true rfl) (Nat.le_of_ble_eq_true rfl) (Nat.zero_le _) (Nat.zero_le _) dX12_spread_70 ?_
        refine lv_topi (fun v14 ev14 => ?_)
        have h := elet_at ev14 h
        clear ev14
        refine lv_istore_n (lv' := [(2, .int v14), (0, .ref (ad 0)), (1, .int l1), (3, .int l3), (4, .int l4)]) hx hb dX12_spread_73 rfl hl (by decide) rfl (fun ls hl => ?_)
        refine lv_iload_n hx hb dX12_spread_74 rfl (lv_at hl 3 rfl) ?_
        refine lv_aload_n hx hb dX12_spread_75 rfl (lv_at hl 1 rfl) ?_
        refine m_get E G 17 (v := .ref (ad 17)) (by decide) (.tail _ qM_14) rfl dX12_spread_76 rfl ?_
        refine lv_bipush (v := 12) hx hb dX12_spread_79 (by decide) ?_
        refine lv_iload_n hx hb dX12_spread_81 rfl (lv_at hl 2 rfl) ?_
        refine lv_imul hx hb dX12_spread_82 ?_
        refine lv_topi (fun v15 ev15 => ?_)
        have h := elet_at ev15 h
        clear ev15
        refine lv_iload hx hb dX12_spread_83 (lv_at hl 4 rfl) ?_
        refine lv_iadd hx hb dX12_spread_85 ?_
        refine lv_topi (fun v16 ev16 => ?_)
        have h := elet_at ev16 h
        clear ev16
        obtain ⟨g17, h⟩ := oif_some h
        refine m_iald E G 17 9 (n := 1728) (k := v16.toNatClampNeg) rfl (inb_k g17).1 (inb_k g17).2 (by decide) dX12_spread_86 ?_
        refine lv_topi (fun v18 ev18 => ?_)
        have h := elet_at ev18 h
        clear ev18
        refine va_mmax hx hb (hml.trans hl.1.symm) hown (hts _ (.tail _ qM_265)) (hts _ (.tail _ qM_266)) (hts _ (.tail _ qM_247)) (hts _ (.tail _ qM_267)) (Nat.le_of_ble_eq_true rfl) (Nat.le_of_ble_eq_true rfl) (Nat.zero_le _) (Nat.zero_le _) dX12_spread_87 ?_
        refine lv_topi (fun v19 ev19 => ?_)
        have h := elet_at ev19 h
        clear ev19
        refine lv_istore_n (lv' := [(3, .int v19), (2, .int v14), (0, .ref (ad 0)), (1, .int l1), (4, .int l4)]) hx hb dX12_spread_90 rfl hl (by decide) rfl (fun ls hl => ?_)
        have hl := lv_sub hl [2, 3, 1, 0, 4] rfl
        exact tr_spread_b91 E hA hR hml kr20 kr100 ih _ _ _ _ _ _ _ _ h G hl
      · have h := oif_pos c9 h
        refine lv_goto (tgt := 91) hx hb dX12_spread_54 (by decide) ?_
        have hl := lv_sub hl [0, 1, 2, 3, 4] rfl
        exact tr_spread_b91 E hA hR hml kr20 kr100 ih _ _ _ _ _ _ _ _ h G hl
def fr_spread (S : MS) (a0 : Int32) : Option (Int32 × MS) := obind2 (fr_isCell S a0) fun r5 S2 => obind2 (fr_mayAsk S2 r5) fun r9 S6 => if r9 = 0 then (fr_spread_b19 S6) else (obind2 (fr_activeCount S6) fun r14 S11 => if r14 = 0 then (fr_spread_b19 S11) else (fr_spread_b30 16384 S11 a0 2147483647 0 0))
set_option maxHeartbeats 4000000 in
set_option maxRecDepth 100000 in
theorem tr_spread (l : Launch) (D : va_G) (cI cJ cZ : ClassId) (ad : Nat → Nat) (S : MS) (a0 : Int32) {r1 : Int32} {S1 : MS} (h : fr_spread S a0 = some (r1, S1)) : mCi l yX12_spread (Cond.code yX12_spread cX12_spread 5 (some .int) :: wsM) 3 44 D cI cJ cZ ad S [.int a0] (fun r S9 => r = r1 ∧ S9 = S1) := by
  intro sz
  refine pro_in (cc := cX12_spread) (maxL := 5) (ret := (some .int)) (by exact pn_RX12) rfl (by exact Nat.le_of_ble_eq_true rfl) (fun p e s m below meth c ls hx hb hr hts hown hlocks hml hv hl => ?_)
  obtain ⟨hsz, hP, hK, hD0, hR⟩ := hv
  subst hsz
  have hD := hD0.self (sz := s.heap.size)
  generalize hAe : va_A (MW cI cJ cZ ad S) s.heap.size = A at hD ⊢
  have hA : ∀ q : Nat, s.heap.size ≤ q → A q := fun q h => by rw [← hAe]; exact Or.inr h
  have G : mG D cI cJ cZ ad A s.heap s.heap [] S := ⟨hP, hD, va_S.rf⟩
  have E : mE p c cX12_spread s m ([.ref (ad 0), .int a0] : List Value).toArray (Cond.code yX12_spread cX12_spread 5 (some .int) :: wsM) D cI cJ cZ := ⟨hx, hb, hts, hown, hK, fun w h => .tail _ (iM_x h)⟩
  have hl : lv_has ls 5 [(0, .ref (ad 0)), (1, .int a0)] := hl
  unfold fr_spread at h
  refine lv_aload_n hx hb dX12_spread_0 rfl (lv_at hl 0 rfl) ?_
  refine lv_aload_n hx hb dX12_spread_1 rfl (lv_at hl 0 rfl) ?_
  refine lv_iload_n hx hb dX12_spread_2 rfl (lv_at hl 1 rfl) ?_
  obtain ⟨r5, S2, eS2, h⟩ := obind2_some h
  refine m_calli (As := [.int a0]) (rest := [.ref (ad 0)]) E G hA hR hml (tr_isCell l D cI cJ cZ ad S a0 eS2) (cwV 1 hts (gmV qM_326 qM_327 qM_328 qM_35 qM_307) rfl rfl rfl (by decide +kernel) ⟨Nat.le_of_ble_eq_true rfl, Nat.le_of_ble_eq_true rfl⟩) rfl hl.1 rfl (lv_room (Nat.le_of_ble_eq_true rfl)) dX12_spread_3 ⟨Nat.zero_le _, Nat.zero_le _⟩ (fun q3 S4 H locs hq G => ?_)
  obtain ⟨hq1, hq2⟩ := hq
  rw [hq2] at G
  refine lv_to hq1 ?_
  clear hq1 hq2 eS2
  obtain ⟨r9, S6, eS6, h⟩ := obind2_some h
  refine m_calli (As := [.int r5]) (rest := []) E G hA hR hml (tr_mayAsk l D cI cJ cZ ad S2 r5 eS6) (cwV 1 hts (gmV qM_319 qM_320 qM_321 qM_35 qM_304) rfl rfl rfl (by decide +kernel) ⟨Nat.le_of_ble_eq_true rfl, Nat.le_of_ble_eq_true rfl⟩) rfl hl.1 rfl (lv_room (Nat.le_of_ble_eq_true rfl)) dX12_spread_6 ⟨Nat.zero_le _, Nat.zero_le _⟩ (fun q7 S8 H locs hq G => ?_)
  obtain ⟨hq1, hq2⟩ := hq
  rw [hq2] at G
  refine lv_to hq1 ?_
  clear hq1 hq2 eS6
  refine lv_if_eq (tgt := 19) hx hb dX12_spread_9 (by decide) (fun c10 => ?_) (fun c10 => ?_)
  · have h := oif_pos c10 h
    have hl := lv_sub hl [] rfl
    exact tr_spread_b19 E hA hR hml (fun H locs ls G => W.iret (v := r1) hx hb hr (fun t ht hW => ⟨⟨r1, S1, rfl, ⟨rfl, rfl⟩, ⟨by rw [ht]; exact G.1, va_K.moved hW.alike hK, G.2.1⟩⟩, G.2.2.F ht⟩) G.2.2.2.2 dX12_spread_20) (fun H locs ls G => W.iret (v := r1) hx hb hr (fun t ht hW => ⟨⟨r1, S1, rfl, ⟨rfl, rfl⟩, ⟨by rw [ht]; exact G.1, va_K.moved hW.alike hK, G.2.1⟩⟩, G.2.2.F ht⟩) G.2.2.2.2 dX12_spread_100) _ _ _ _ h G hl
  · have h := oif_neg c10 h
    refine lv_aload_n hx hb dX12_spread_12 rfl (lv_at hl 0 rfl) ?_
    obtain ⟨r14, S11, eS11, h⟩ := obind2_some h
    refine m_calli (As := []) (rest := []) E G hA hR hml (tr_activeCount l D cI cJ cZ ad S6 eS11) (cwV 0 hts (gmV qM_348 qM_349 qM_350 qM_35 qM_345) rfl rfl rfl (by decide +kernel) ⟨Nat.le_of_ble_eq_true rfl, Nat.le_of_ble_eq_true rfl⟩) rfl hl.1 rfl (lv_room (Nat.le_of_ble_eq_true rfl)) dX12_spread_13 ⟨Nat.zero_le _, Nat.zero_le _⟩ (fun q12 S13 H locs hq G => ?_)
    obtain ⟨hq1, hq2⟩ := hq
    rw [hq2] at G
    refine lv_to hq1 ?_
    clear hq1 hq2 eS11
    refine lv_if_ne (tgt := 21) hx hb dX12_spread_16 (by decide) (fun c15 => ?_) (fun c15 => ?_)
    · have h := oif_neg c15 h
      refine lv_ldcw (v := 2147483647) hx hb hown (hts (.constant RX12 362 (2147483647)) (.tail _ qM_347)) dX12_spread_21 ?_
      refine lv_istore_n (lv' := [(2, .int 2147483647), (0, .ref (ad 0)), (1, .int a0)]) hx hb dX12_spread_24 rfl hl (by decide) rfl (fun ls hl => ?_)
      refine lv_iconst (v := 0) hx hb dX12_spread_25 (by decide) ?_
      refine lv_istore_n (lv' := [(3, .int 0), (2, .int 2147483647), (0, .ref (ad 0)), (1, .int a0)]) hx hb dX12_spread_26 rfl hl (by decide) rfl (fun ls hl => ?_)
      refine lv_iconst (v := 0) hx hb dX12_spread_27 (by decide) ?_
      refine lv_istore (lv' := [(4, .int 0), (3, .int 0), (2, .int 2147483647), (0, .ref (ad 0)), (1, .int a0)]) hx hb dX12_spread_28 hl (by decide) rfl (fun ls hl => ?_)
      have hl := lv_sub hl [3, 4, 2, 1, 0] rfl
      exact tr_spread_b30 E hA hR hml (fun H locs ls G => W.iret (v := r1) hx hb hr (fun t ht hW => ⟨⟨r1, S1, rfl, ⟨rfl, rfl⟩, ⟨by rw [ht]; exact G.1, va_K.moved hW.alike hK, G.2.1⟩⟩, G.2.2.F ht⟩) G.2.2.2.2 dX12_spread_20) (fun H locs ls G => W.iret (v := r1) hx hb hr (fun t ht hW => ⟨⟨r1, S1, rfl, ⟨rfl, rfl⟩, ⟨by rw [ht]; exact G.1, va_K.moved hW.alike hK, G.2.1⟩⟩, G.2.2.F ht⟩) G.2.2.2.2 dX12_spread_100) _ _ _ _ _ _ _ _ _ h G hl
    · have h := oif_pos c15 h
      have hl := lv_sub hl [] rfl
      exact tr_spread_b19 E hA hR hml (fun H locs ls G => W.iret (v := r1) hx hb hr (fun t ht hW => ⟨⟨r1, S1, rfl, ⟨rfl, rfl⟩, ⟨by rw [ht]; exact G.1, va_K.moved hW.alike hK, G.2.1⟩⟩, G.2.2.F ht⟩) G.2.2.2.2 dX12_spread_20) (fun H locs ls G => W.iret (v := r1) hx hb hr (fun t ht hW => ⟨⟨r1, S1, rfl, ⟨rfl, rfl⟩, ⟨by rw [ht]; exact G.1, va_K.moved hW.alike hK, G.2.1⟩⟩, G.2.2.F ht⟩) G.2.2.2.2 dX12_spread_100) _ _ _ _ h G hl
def fr_windowOf_12_b37 (k4 : MS → Int32 → Int32 → Option (Int32 × MS)) (S : MS) (s0 : Int32) (l3 : Int32) : Option (Int32 × MS) := elet (l3 + Int32.ofInt (1)) fun v2 => k4 S s0 v2
set_option maxHeartbeats 4000000 in
set_option maxRecDepth 100000 in
theorem tr_windowOf_12_b37 {p : Program} {l : Launch} {e : Env} {s : State} {m : MethodId} {args : Array Value} {below : List Frame} {meth : Method} {c : Code} {Q : State → Prop} {D : va_G} {A : Nat → Prop} {H0 : Heap} {cI cJ cZ : ClassId} {ad : Nat → Nat} {r1 : Int32} {S1 : MS} (E : mE p c cX12_windowOf s m args (Cond.code yX12_windowOf cX12_windowOf 4 (some .int) :: wsM) D cI cJ cZ) (hA : ∀ q : Nat, H0.size ≤ q → A q) (hR : sR s) (hml : c.maxLocals = 4) (kr56 : ∀ (H : Heap) (locs : List Loc) (ls : Array Slot), mG D cI cJ cZ ad A H0 H locs S1 → W p l e { frames := 2, cells := 0, slots := 0, locals := 22 } s m args below meth c H locs 0 0 Q (F0 m 56 ls [.int r1])) {k4 : MS → Int32 → Int32 → Option (Int32 × MS)} (hk4 : ∀ (S : MS) (H : Heap) (locs : List Loc) (ls : Array Slot) (l2 : Int32) (l3 : Int32), k4 S l2 l3 = some (r1, S1) → mG D cI cJ cZ ad A H0 H locs S → lv_has ls 4 [(0, .ref (ad 0)), (1, .ref (ad 12)), (2, .int l2), (3, .int l3)] → W p l e { frames := 2, cells := 0, slots := 0, locals := 22 } s m args below meth c H locs 0 0 Q (F0 m 4 ls [])) : ∀ (S : MS) (H : Heap) (locs : List Loc) (ls : Array Slot) (s0 : Int32) (l3 : Int32), fr_windowOf_12_b37 k4 S s0 l3 = some (r1, S1) → mG D cI cJ cZ ad A H0 H locs S → lv_has ls 4 [(0, .ref (ad 0)), (1, .ref (ad 12)), (3, .int l3)] → W p l e { frames := 2, cells := 0, slots := 0, locals := 22 } s m args below meth c H locs 0 0 Q (F0 m 37 ls [.int s0]) := by
  have hx := E.1
  have hb := E.2.1
  have hts := E.2.2.1
  have hown := E.2.2.2.1
  have hK := E.2.2.2.2.1
  intro S H locs ls s0 l3 h G hl
  unfold fr_windowOf_12_b37 at h
  refine lv_istore_n (lv' := [(2, .int s0), (0, .ref (ad 0)), (1, .ref (ad 12)), (3, .int l3)]) hx hb dX12_windowOf_37 rfl hl (by decide) rfl (fun ls hl => ?_)
  obtain ⟨v2, ev2, h⟩ := elet_some h
  refine lv_iinc (v := v2) (lv' := [(3, .int v2), (2, .int s0), (0, .ref (ad 0)), (1, .ref (ad 12))]) hx hb dX12_windowOf_38 hl (k := 3) rfl ev2.symm (by decide) rfl (fun ls hl => ?_)
  refine lv_goto (tgt := 4) hx hb dX12_windowOf_41 (by decide) ?_
  have hl := lv_sub hl [2, 3, 1, 0] rfl
  exact hk4 _ _ _ _ _ _ h G hl
def fr_windowOf_12_b4  : Nat → MS → Int32 → Int32 → Option (Int32 × MS)
  | 0, _, _, _ => none
  | n + 1, S, l2, l3 => elet (S.2.1 10 4) fun v2 => if v2 ≤ l3 then (elet (S.2.1 10 2) fun v4 => elet (v4 - l2) fun v5 => elet (if 0 < v5 then v5 else 0) fun v6 => some (v6, S)) else (obind2 (fr_hears_12 S l3) fun r10 S7 => if r10 = 0 then (fr_windowOf_12_b37 (fr_windowOf_12_b4 n) S7 l2 l3) else (oif (inb l3 12 = true) <| elet (S7.2.1 24 l3.toNatClampNeg) fun v13 => elet (if l2 < v13 then v13 else l2) fun v14 => fr_windowOf_12_b37 (fr_windowOf_12_b4 n) S7 v14 l3))
set_option maxHeartbeats 4000000 in
set_option maxRecDepth 100000 in
theorem tr_windowOf_12_b4 {p : Program} {l : Launch} {e : Env} {s : State} {m : MethodId} {args : Array Value} {below : List Frame} {meth : Method} {c : Code} {Q : State → Prop} {D : va_G} {A : Nat → Prop} {H0 : Heap} {cI cJ cZ : ClassId} {ad : Nat → Nat} {r1 : Int32} {S1 : MS} (E : mE p c cX12_windowOf s m args (Cond.code yX12_windowOf cX12_windowOf 4 (some .int) :: wsM) D cI cJ cZ) (hA : ∀ q : Nat, H0.size ≤ q → A q) (hR : sR s) (hml : c.maxLocals = 4) (kr56 : ∀ (H : Heap) (locs : List Loc) (ls : Array Slot), mG D cI cJ cZ ad A H0 H locs S1 → W p l e { frames := 2, cells := 0, slots := 0, locals := 22 } s m args below meth c H locs 0 0 Q (F0 m 56 ls [.int r1])) : ∀ n : Nat, ∀ (S : MS) (H : Heap) (locs : List Loc) (ls : Array Slot) (l2 : Int32) (l3 : Int32), fr_windowOf_12_b4 n S l2 l3 = some (r1, S1) → mG D cI cJ cZ ad A H0 H locs S → lv_has ls 4 [(0, .ref (ad 0)), (1, .ref (ad 12)), (2, .int l2), (3, .int l3)] → W p l e { frames := 2, cells := 0, slots := 0, locals := 22 } s m args below meth c H locs 0 0 Q (F0 m 4 ls []) := by
  have hx := E.1
  have hb := E.2.1
  have hts := E.2.2.1
  have hown := E.2.2.2.1
  have hK := E.2.2.2.2.1
  intro n
  induction n with
  | zero =>
    intro S H locs ls l2 l3 h
    have h : (none : Option (Int32 × MS)) = some (r1, S1) := h
    cases h
  | succ n ih =>
    intro S H locs ls l2 l3 h G hl
    unfold fr_windowOf_12_b4 at h
    refine lv_iload_n hx hb dX12_windowOf_4 rfl (lv_at hl 3 rfl) ?_
    refine lv_aload_n hx hb dX12_windowOf_5 rfl (lv_at hl 0 rfl) ?_
    refine m_get E G 10 (v := .ref (ad 10)) (by decide) (.tail _ qM_7) rfl dX12_windowOf_6 rfl ?_
    refine lv_iconst (v := 4) hx hb dX12_windowOf_9 (by decide) ?_
    refine m_iald E G 10 2 (n := 131) (k := 4) rfl rfl (by decide) (by decide) dX12_windowOf_10 ?_
    refine lv_topi (fun v2 ev2 => ?_)
    have h := elet_at ev2 h
    clear ev2
    refine lv_icmp_ge (tgt := 44) hx hb dX12_windowOf_11 (by decide) (fun c3 => ?_) (fun c3 => ?_)
    · have h := oif_pos c3 h
      refine lv_iconst (v := 0) hx hb dX12_windowOf_44 (by decide) ?_
      refine lv_aload_n hx hb dX12_windowOf_45 rfl (lv_at hl 0 rfl) ?_
      refine m_get E G 10 (v := .ref (ad 10)) (by decide) (.tail _ qM_7) rfl dX12_windowOf_46 rfl ?_
      refine lv_iconst (v := 2) hx hb dX12_windowOf_49 (by decide) ?_
      refine m_iald E G 10 2 (n := 131) (k := 2) rfl rfl (by decide) (by decide) dX12_windowOf_50 ?_
      refine lv_topi (fun v4 ev4 => ?_)
      have h := elet_at ev4 h
      clear ev4
      refine lv_iload_n hx hb dX12_windowOf_51 rfl (lv_at hl 2 rfl) ?_
      refine lv_isub hx hb dX12_windowOf_52 ?_
      refine lv_topi (fun v5 ev5 => ?_)
      have h := elet_at ev5 h
      clear ev5
      refine va_mmax hx hb (hml.trans hl.1.symm) hown (hts _ (.tail _ qM_265)) (hts _ (.tail _ qM_266)) (hts _ (.tail _ qM_247)) (hts _ (.tail _ qM_267)) (Nat.le_of_ble_eq_true rfl) (Nat.le_of_ble_eq_true rfl) (Nat.zero_le _) (Nat.zero_le _) dX12_windowOf_53 ?_
      refine lv_topi (fun v6 ev6 => ?_)
      have h := elet_at ev6 h
      clear ev6
      rw [(osome2 h).2] at G
      refine lv_to (osome2 h).1 ?_
      exact kr56 _ _ _ G
    · have h := oif_neg c3 h
      refine lv_aload_n hx hb dX12_windowOf_14 rfl (lv_at hl 0 rfl) ?_
      refine lv_aload_n hx hb dX12_windowOf_15 rfl (lv_at hl 1 rfl) ?_
      refine lv_iload_n hx hb dX12_windowOf_16 rfl (lv_at hl 3 rfl) ?_
      obtain ⟨r10, S7, eS7, h⟩ := obind2_some h
      refine m_calli (As := [.ref (ad 12), .int l3]) (rest := []) E G hA hR hml (tr_hears_12 l D cI cJ cZ ad S l3 eS7) (cwV 2 hts (gmV qM_274 qM_275 qM_276 qM_35 qM_272) rfl rfl rfl (by decide +kernel) ⟨Nat.le_of_ble_eq_true rfl, Nat.le_of_ble_eq_true rfl⟩) rfl hl.1 rfl (lv_room (Nat.le_of_ble_eq_true rfl)) dX12_windowOf_17 ⟨Nat.zero_le _, Nat.zero_le _⟩ (fun q8 S9 H locs hq G => ?_)
      obtain ⟨hq1, hq2⟩ := hq
      rw [hq2] at G
      refine lv_to hq1 ?_
      clear hq1 hq2 eS7
      refine lv_if_eq (tgt := 36) hx hb dX12_windowOf_20 (by decide) (fun c11 => ?_) (fun c11 => ?_)
      · have h := oif_pos c11 h
        refine lv_iload_n hx hb dX12_windowOf_36 rfl (lv_at hl 2 rfl) ?_
        have hl := lv_sub hl [0, 1, 3] rfl
        exact tr_windowOf_12_b37 E hA hR hml kr56 ih _ _ _ _ _ _ h G hl
      · have h := oif_neg c11 h
        refine lv_iload_n hx hb dX12_windowOf_23 rfl (lv_at hl 2 rfl) ?_
        refine lv_aload_n hx hb dX12_windowOf_24 rfl (lv_at hl 0 rfl) ?_
        refine m_get E G 24 (v := .ref (ad 24)) (by decide) (.tail _ qM_19) rfl dX12_windowOf_25 rfl ?_
        refine lv_iload_n hx hb dX12_windowOf_28 rfl (lv_at hl 3 rfl) ?_
        obtain ⟨g12, h⟩ := oif_some h
        refine m_iald E G 24 12 (n := 12) (k := l3.toNatClampNeg) rfl (inb_k g12).1 (inb_k g12).2 (by decide) dX12_windowOf_29 ?_
        refine lv_topi (fun v13 ev13 => ?_)
        have h := elet_at ev13 h
        clear ev13
        refine va_mmax hx hb (hml.trans hl.1.symm) hown (hts _ (.tail _ qM_265)) (hts _ (.tail _ qM_266)) (hts _ (.tail _ qM_247)) (hts _ (.tail _ qM_267)) (Nat.le_of_ble_eq_true rfl) (Nat.le_of_ble_eq_true rfl) (Nat.zero_le _) (Nat.zero_le _) dX12_windowOf_30 ?_
        refine lv_topi (fun v14 ev14 => ?_)
        have h := elet_at ev14 h
        clear ev14
        refine lv_goto (tgt := 37) hx hb dX12_windowOf_33 (by decide) ?_
        have hl := lv_sub hl [0, 1, 3] rfl
        exact tr_windowOf_12_b37 E hA hR hml kr56 ih _ _ _ _ _ _ h G hl
def fr_windowOf_12 (S : MS)  : Option (Int32 × MS) := fr_windowOf_12_b4 16384 S 0 0
set_option maxHeartbeats 4000000 in
set_option maxRecDepth 100000 in
theorem tr_windowOf_12 (l : Launch) (D : va_G) (cI cJ cZ : ClassId) (ad : Nat → Nat) (S : MS)  {r1 : Int32} {S1 : MS} (h : fr_windowOf_12 S = some (r1, S1)) : mCi l yX12_windowOf (Cond.code yX12_windowOf cX12_windowOf 4 (some .int) :: wsM) 2 22 D cI cJ cZ ad S [.ref (ad 12)] (fun r S9 => r = r1 ∧ S9 = S1) := by
  intro sz
  refine pro_in (cc := cX12_windowOf) (maxL := 4) (ret := (some .int)) (by exact pn_RX12) rfl (by exact Nat.le_of_ble_eq_true rfl) (fun p e s m below meth c ls hx hb hr hts hown hlocks hml hv hl => ?_)
  obtain ⟨hsz, hP, hK, hD0, hR⟩ := hv
  subst hsz
  have hD := hD0.self (sz := s.heap.size)
  generalize hAe : va_A (MW cI cJ cZ ad S) s.heap.size = A at hD ⊢
  have hA : ∀ q : Nat, s.heap.size ≤ q → A q := fun q h => by rw [← hAe]; exact Or.inr h
  have G : mG D cI cJ cZ ad A s.heap s.heap [] S := ⟨hP, hD, va_S.rf⟩
  have E : mE p c cX12_windowOf s m ([.ref (ad 0), .ref (ad 12)] : List Value).toArray (Cond.code yX12_windowOf cX12_windowOf 4 (some .int) :: wsM) D cI cJ cZ := ⟨hx, hb, hts, hown, hK, fun w h => .tail _ (iM_x h)⟩
  have hl : lv_has ls 4 [(0, .ref (ad 0)), (1, .ref (ad 12))] := hl
  unfold fr_windowOf_12 at h
  refine lv_iconst (v := 0) hx hb dX12_windowOf_0 (by decide) ?_
  refine lv_istore_n (lv' := [(2, .int 0), (0, .ref (ad 0)), (1, .ref (ad 12))]) hx hb dX12_windowOf_1 rfl hl (by decide) rfl (fun ls hl => ?_)
  refine lv_iconst (v := 0) hx hb dX12_windowOf_2 (by decide) ?_
  refine lv_istore_n (lv' := [(3, .int 0), (2, .int 0), (0, .ref (ad 0)), (1, .ref (ad 12))]) hx hb dX12_windowOf_3 rfl hl (by decide) rfl (fun ls hl => ?_)
  have hl := lv_sub hl [2, 3, 1, 0] rfl
  exact tr_windowOf_12_b4 E hA hR hml (fun H locs ls G => W.iret (v := r1) hx hb hr (fun t ht hW => ⟨⟨r1, S1, rfl, ⟨rfl, rfl⟩, ⟨by rw [ht]; exact G.1, va_K.moved hW.alike hK, G.2.1⟩⟩, G.2.2.F ht⟩) G.2.2.2.2 dX12_windowOf_56) _ _ _ _ _ _ _ h G hl
def fr_window (S : MS) (a0 : Int32) : Option (Int32 × MS) := obind2 (fr_isCell S a0) fun r5 S2 => obind2 (fr_mayAsk S2 r5) fun r9 S6 => if r9 = 0 then (some (0, S6)) else (obind (fr_laysCell S6 a0) fun S11 => obind2 (fr_windowOf_12 S11) fun r17 S14 => some (r17, S14))
set_option maxHeartbeats 4000000 in
set_option maxRecDepth 100000 in
theorem tr_window (l : Launch) (D : va_G) (cI cJ cZ : ClassId) (ad : Nat → Nat) (S : MS) (a0 : Int32) {r1 : Int32} {S1 : MS} (h : fr_window S a0 = some (r1, S1)) : mCi l yX12_window (Cond.code yX12_window cX12_window 2 (some .int) :: wsM) 3 45 D cI cJ cZ ad S [.int a0] (fun r S9 => r = r1 ∧ S9 = S1) := by
  intro sz
  refine pro_in (cc := cX12_window) (maxL := 2) (ret := (some .int)) (by exact pn_RX12) rfl (by exact Nat.le_of_ble_eq_true rfl) (fun p e s m below meth c ls hx hb hr hts hown hlocks hml hv hl => ?_)
  obtain ⟨hsz, hP, hK, hD0, hR⟩ := hv
  subst hsz
  have hD := hD0.self (sz := s.heap.size)
  generalize hAe : va_A (MW cI cJ cZ ad S) s.heap.size = A at hD ⊢
  have hA : ∀ q : Nat, s.heap.size ≤ q → A q := fun q h => by rw [← hAe]; exact Or.inr h
  have G : mG D cI cJ cZ ad A s.heap s.heap [] S := ⟨hP, hD, va_S.rf⟩
  have E : mE p c cX12_window s m ([.ref (ad 0), .int a0] : List Value).toArray (Cond.code yX12_window cX12_window 2 (some .int) :: wsM) D cI cJ cZ := ⟨hx, hb, hts, hown, hK, fun w h => .tail _ (iM_x h)⟩
  have hl : lv_has ls 2 [(0, .ref (ad 0)), (1, .int a0)] := hl
  unfold fr_window at h
  refine lv_aload_n hx hb dX12_window_0 rfl (lv_at hl 0 rfl) ?_
  refine lv_aload_n hx hb dX12_window_1 rfl (lv_at hl 0 rfl) ?_
  refine lv_iload_n hx hb dX12_window_2 rfl (lv_at hl 1 rfl) ?_
  obtain ⟨r5, S2, eS2, h⟩ := obind2_some h
  refine m_calli (As := [.int a0]) (rest := [.ref (ad 0)]) E G hA hR hml (tr_isCell l D cI cJ cZ ad S a0 eS2) (cwV 1 hts (gmV qM_326 qM_327 qM_328 qM_35 qM_307) rfl rfl rfl (by decide +kernel) ⟨Nat.le_of_ble_eq_true rfl, Nat.le_of_ble_eq_true rfl⟩) rfl hl.1 rfl (lv_room (Nat.le_of_ble_eq_true rfl)) dX12_window_3 ⟨Nat.zero_le _, Nat.zero_le _⟩ (fun q3 S4 H locs hq G => ?_)
  obtain ⟨hq1, hq2⟩ := hq
  rw [hq2] at G
  refine lv_to hq1 ?_
  clear hq1 hq2 eS2
  obtain ⟨r9, S6, eS6, h⟩ := obind2_some h
  refine m_calli (As := [.int r5]) (rest := []) E G hA hR hml (tr_mayAsk l D cI cJ cZ ad S2 r5 eS6) (cwV 1 hts (gmV qM_319 qM_320 qM_321 qM_35 qM_304) rfl rfl rfl (by decide +kernel) ⟨Nat.le_of_ble_eq_true rfl, Nat.le_of_ble_eq_true rfl⟩) rfl hl.1 rfl (lv_room (Nat.le_of_ble_eq_true rfl)) dX12_window_6 ⟨Nat.zero_le _, Nat.zero_le _⟩ (fun q7 S8 H locs hq G => ?_)
  obtain ⟨hq1, hq2⟩ := hq
  rw [hq2] at G
  refine lv_to hq1 ?_
  clear hq1 hq2 eS6
  refine lv_if_ne (tgt := 14) hx hb dX12_window_9 (by decide) (fun c10 => ?_) (fun c10 => ?_)
  · have h := oif_neg c10 h
    refine lv_aload_n hx hb dX12_window_14 rfl (lv_at hl 0 rfl) ?_
    refine lv_iload_n hx hb dX12_window_15 rfl (lv_at hl 1 rfl) ?_
    obtain ⟨S11, eS11, h⟩ := obind_some h
    refine m_callv (As := [.int a0]) (rest := []) E G hA hR hml (tr_laysCell l D cI cJ cZ ad S6 a0 eS11) (cwV 1 hts (gmV qM_290 qM_291 qM_292 qM_35 qM_270) rfl rfl rfl (by decide +kernel) ⟨Nat.le_of_ble_eq_true rfl, Nat.le_of_ble_eq_true rfl⟩) rfl hl.1 rfl (lv_room (Nat.le_of_ble_eq_true rfl)) dX12_window_16 ⟨Nat.zero_le _, Nat.zero_le _⟩ (fun S13 H locs hq G => ?_)
    rw [hq] at G
    clear hq eS11
    refine lv_aload_n hx hb dX12_window_19 rfl (lv_at hl 0 rfl) ?_
    refine lv_aload_n hx hb dX12_window_20 rfl (lv_at hl 0 rfl) ?_
    refine m_get E G 12 (v := .ref (ad 12)) (by decide) (.tail _ qM_9) rfl dX12_window_21 rfl ?_
    obtain ⟨r17, S14, eS14, h⟩ := obind2_some h
    refine m_calli (As := [.ref (ad 12)]) (rest := []) E G hA hR hml (tr_windowOf_12 l D cI cJ cZ ad S11 eS14) (cwV 1 hts (gmV qM_283 qM_284 qM_285 qM_35 qM_273) rfl rfl rfl (by decide +kernel) ⟨Nat.le_of_ble_eq_true rfl, Nat.le_of_ble_eq_true rfl⟩) rfl hl.1 rfl (lv_room (Nat.le_of_ble_eq_true rfl)) dX12_window_24 ⟨Nat.zero_le _, Nat.zero_le _⟩ (fun q15 S16 H locs hq G => ?_)
    obtain ⟨hq1, hq2⟩ := hq
    rw [hq2] at G
    refine lv_to hq1 ?_
    clear hq1 hq2 eS14
    exact W.iret (v := r17) hx hb hr (fun t ht hW => ⟨⟨r17, S14, rfl, osome2 h, ⟨by rw [ht]; exact G.1, va_K.moved hW.alike hK, G.2.1⟩⟩, G.2.2.F ht⟩) G.2.2.2.2 dX12_window_27
  · have h := oif_pos c10 h
    refine lv_iconst (v := 0) hx hb dX12_window_12 (by decide) ?_
    exact W.iret (v := 0) hx hb hr (fun t ht hW => ⟨⟨0, S6, rfl, osome2 h, ⟨by rw [ht]; exact G.1, va_K.moved hW.alike hK, G.2.1⟩⟩, G.2.2.F ht⟩) G.2.2.2.2 dX12_window_13
def fr_sample_b45  (S : MS) (s0 : Int32) : Option (Int32 × MS) := some (s0, S)
set_option maxHeartbeats 4000000 in
set_option maxRecDepth 100000 in
theorem tr_sample_b45 {p : Program} {l : Launch} {e : Env} {s : State} {m : MethodId} {args : Array Value} {below : List Frame} {meth : Method} {c : Code} {Q : State → Prop} {D : va_G} {A : Nat → Prop} {H0 : Heap} {cI cJ cZ : ClassId} {ad : Nat → Nat} {r1 : Int32} {S1 : MS} (E : mE p c cX12_sample s m args (Cond.code yX12_sample cX12_sample 3 (some .int) :: wsM) D cI cJ cZ) (hA : ∀ q : Nat, H0.size ≤ q → A q) (hR : sR s) (hml : c.maxLocals = 3) (kr13 : ∀ (H : Heap) (locs : List Loc) (ls : Array Slot), mG D cI cJ cZ ad A H0 H locs S1 → W p l e { frames := 3, cells := 0, slots := 0, locals := 43 } s m args below meth c H locs 0 0 Q (F0 m 13 ls [.int r1])) (kr45 : ∀ (H : Heap) (locs : List Loc) (ls : Array Slot), mG D cI cJ cZ ad A H0 H locs S1 → W p l e { frames := 3, cells := 0, slots := 0, locals := 43 } s m args below meth c H locs 0 0 Q (F0 m 45 ls [.int r1])) : ∀ (S : MS) (H : Heap) (locs : List Loc) (ls : Array Slot) (s0 : Int32), fr_sample_b45 S s0 = some (r1, S1) → mG D cI cJ cZ ad A H0 H locs S → lv_has ls 3 [] → W p l e { frames := 3, cells := 0, slots := 0, locals := 43 } s m args below meth c H locs 0 0 Q (F0 m 45 ls [.int s0]) := by
  have hx := E.1
  have hb := E.2.1
  have hts := E.2.2.1
  have hown := E.2.2.2.1
  have hK := E.2.2.2.2.1
  intro S H locs ls s0 h G hl
  unfold fr_sample_b45 at h
  rw [(osome2 h).2] at G
  refine lv_to (osome2 h).1 ?_
  exact kr45 _ _ _ G
def fr_sample (S : MS) (a0 : Int32) (a1 : Int32) : Option (Int32 × MS) := obind2 (fr_isMic S a0) fun r5 S2 => obind2 (fr_mayAsk S2 r5) fun r9 S6 => if r9 = 0 then (some (0, S6)) else (obind2 (fr_isTime S6 a1) fun r14 S11 => if r14 = 0 then (obind2 (fr_throwsAt S11 3) fun r19 S16 => fr_sample_b45 S16 r19) else (elet (200 * a0) fun v20 => elet (55 + v20) fun v21 => elet (v21 + a1) fun v22 => oif (inb v22 2455 = true) <| elet (S11.2.1 12 v22.toNatClampNeg) fun v24 => fr_sample_b45 S11 v24))
set_option maxHeartbeats 4000000 in
set_option maxRecDepth 100000 in
theorem tr_sample (l : Launch) (D : va_G) (cI cJ cZ : ClassId) (ad : Nat → Nat) (S : MS) (a0 : Int32) (a1 : Int32) {r1 : Int32} {S1 : MS} (h : fr_sample S a0 a1 = some (r1, S1)) : mCi l yX12_sample (Cond.code yX12_sample cX12_sample 3 (some .int) :: wsM) 3 43 D cI cJ cZ ad S [.int a0, .int a1] (fun r S9 => r = r1 ∧ S9 = S1) := by
  intro sz
  refine pro_in (cc := cX12_sample) (maxL := 3) (ret := (some .int)) (by exact pn_RX12) rfl (by exact Nat.le_of_ble_eq_true rfl) (fun p e s m below meth c ls hx hb hr hts hown hlocks hml hv hl => ?_)
  obtain ⟨hsz, hP, hK, hD0, hR⟩ := hv
  subst hsz
  have hD := hD0.self (sz := s.heap.size)
  generalize hAe : va_A (MW cI cJ cZ ad S) s.heap.size = A at hD ⊢
  have hA : ∀ q : Nat, s.heap.size ≤ q → A q := fun q h => by rw [← hAe]; exact Or.inr h
  have G : mG D cI cJ cZ ad A s.heap s.heap [] S := ⟨hP, hD, va_S.rf⟩
  have E : mE p c cX12_sample s m ([.ref (ad 0), .int a0, .int a1] : List Value).toArray (Cond.code yX12_sample cX12_sample 3 (some .int) :: wsM) D cI cJ cZ := ⟨hx, hb, hts, hown, hK, fun w h => .tail _ (iM_x h)⟩
  have hl : lv_has ls 3 [(0, .ref (ad 0)), (1, .int a0), (2, .int a1)] := hl
  unfold fr_sample at h
  refine lv_aload_n hx hb dX12_sample_0 rfl (lv_at hl 0 rfl) ?_
  refine lv_aload_n hx hb dX12_sample_1 rfl (lv_at hl 0 rfl) ?_
  refine lv_iload_n hx hb dX12_sample_2 rfl (lv_at hl 1 rfl) ?_
  obtain ⟨r5, S2, eS2, h⟩ := obind2_some h
  refine m_calli (As := [.int a0]) (rest := [.ref (ad 0)]) E G hA hR hml (tr_isMic l D cI cJ cZ ad S a0 eS2) (cwV 1 hts (gmV qM_316 qM_317 qM_318 qM_35 qM_306) rfl rfl rfl (by decide +kernel) ⟨Nat.le_of_ble_eq_true rfl, Nat.le_of_ble_eq_true rfl⟩) rfl hl.1 rfl (lv_room (Nat.le_of_ble_eq_true rfl)) dX12_sample_3 ⟨Nat.zero_le _, Nat.zero_le _⟩ (fun q3 S4 H locs hq G => ?_)
  obtain ⟨hq1, hq2⟩ := hq
  rw [hq2] at G
  refine lv_to hq1 ?_
  clear hq1 hq2 eS2
  obtain ⟨r9, S6, eS6, h⟩ := obind2_some h
  refine m_calli (As := [.int r5]) (rest := []) E G hA hR hml (tr_mayAsk l D cI cJ cZ ad S2 r5 eS6) (cwV 1 hts (gmV qM_319 qM_320 qM_321 qM_35 qM_304) rfl rfl rfl (by decide +kernel) ⟨Nat.le_of_ble_eq_true rfl, Nat.le_of_ble_eq_true rfl⟩) rfl hl.1 rfl (lv_room (Nat.le_of_ble_eq_true rfl)) dX12_sample_6 ⟨Nat.zero_le _, Nat.zero_le _⟩ (fun q7 S8 H locs hq G => ?_)
  obtain ⟨hq1, hq2⟩ := hq
  rw [hq2] at G
  refine lv_to hq1 ?_
  clear hq1 hq2 eS6
  refine lv_if_ne (tgt := 14) hx hb dX12_sample_9 (by decide) (fun c10 => ?_) (fun c10 => ?_)
  · have h := oif_neg c10 h
    refine lv_aload_n hx hb dX12_sample_14 rfl (lv_at hl 0 rfl) ?_
    refine lv_iload_n hx hb dX12_sample_15 rfl (lv_at hl 2 rfl) ?_
    obtain ⟨r14, S11, eS11, h⟩ := obind2_some h
    refine m_calli (As := [.int a1]) (rest := []) E G hA hR hml (tr_isTime l D cI cJ cZ ad S6 a1 eS11) (cwV 1 hts (gmV qM_334 qM_335 qM_336 qM_35 qM_309) rfl rfl rfl (by decide +kernel) ⟨Nat.le_of_ble_eq_true rfl, Nat.le_of_ble_eq_true rfl⟩) rfl hl.1 rfl (lv_room (Nat.le_of_ble_eq_true rfl)) dX12_sample_16 ⟨Nat.zero_le _, Nat.zero_le _⟩ (fun q12 S13 H locs hq G => ?_)
    obtain ⟨hq1, hq2⟩ := hq
    rw [hq2] at G
    refine lv_to hq1 ?_
    clear hq1 hq2 eS11
    refine lv_if_eq (tgt := 40) hx hb dX12_sample_19 (by decide) (fun c15 => ?_) (fun c15 => ?_)
    · have h := oif_pos c15 h
      refine lv_aload_n hx hb dX12_sample_40 rfl (lv_at hl 0 rfl) ?_
      refine lv_iconst (v := 3) hx hb dX12_sample_41 (by decide) ?_
      obtain ⟨r19, S16, eS16, h⟩ := obind2_some h
      refine m_calli (As := [.int 3]) (rest := []) E G hA hR hml (tr_throwsAt l D cI cJ cZ ad S11 3 eS16) (cwV 1 hts (gmV qM_195 qM_196 qM_197 qM_35 qM_28) rfl rfl rfl (by decide +kernel) ⟨Nat.le_of_ble_eq_true rfl, Nat.le_of_ble_eq_true rfl⟩) rfl hl.1 rfl (lv_room (Nat.le_of_ble_eq_true rfl)) dX12_sample_42 ⟨Nat.zero_le _, Nat.zero_le _⟩ (fun q17 S18 H locs hq G => ?_)
      obtain ⟨hq1, hq2⟩ := hq
      rw [hq2] at G
      refine lv_to hq1 ?_
      clear hq1 hq2 eS16
      have hl := lv_sub hl [] rfl
      exact tr_sample_b45 E hA hR hml (fun H locs ls G => W.iret (v := r1) hx hb hr (fun t ht hW => ⟨⟨r1, S1, rfl, ⟨rfl, rfl⟩, ⟨by rw [ht]; exact G.1, va_K.moved hW.alike hK, G.2.1⟩⟩, G.2.2.F ht⟩) G.2.2.2.2 dX12_sample_13) (fun H locs ls G => W.iret (v := r1) hx hb hr (fun t ht hW => ⟨⟨r1, S1, rfl, ⟨rfl, rfl⟩, ⟨by rw [ht]; exact G.1, va_K.moved hW.alike hK, G.2.1⟩⟩, G.2.2.F ht⟩) G.2.2.2.2 dX12_sample_45) _ _ _ _ _ h G hl
    · have h := oif_neg c15 h
      refine lv_aload_n hx hb dX12_sample_22 rfl (lv_at hl 0 rfl) ?_
      refine m_get E G 12 (v := .ref (ad 12)) (by decide) (.tail _ qM_9) rfl dX12_sample_23 rfl ?_
      refine lv_bipush (v := 55) hx hb dX12_sample_26 (by decide) ?_
      refine lv_sipush (v := 200) hx hb dX12_sample_28 (by decide) ?_
      refine lv_iload_n hx hb dX12_sample_31 rfl (lv_at hl 1 rfl) ?_
      refine lv_imul hx hb dX12_sample_32 ?_
      refine lv_topi (fun v20 ev20 => ?_)
      have h := elet_at ev20 h
      clear ev20
      refine lv_iadd hx hb dX12_sample_33 ?_
      refine lv_topi (fun v21 ev21 => ?_)
      have h := elet_at ev21 h
      clear ev21
      refine lv_iload_n hx hb dX12_sample_34 rfl (lv_at hl 2 rfl) ?_
      refine lv_iadd hx hb dX12_sample_35 ?_
      refine lv_topi (fun v22 ev22 => ?_)
      have h := elet_at ev22 h
      clear ev22
      obtain ⟨g23, h⟩ := oif_some h
      refine m_iald E G 12 4 (n := 2455) (k := v22.toNatClampNeg) rfl (inb_k g23).1 (inb_k g23).2 (by decide) dX12_sample_36 ?_
      refine lv_topi (fun v24 ev24 => ?_)
      have h := elet_at ev24 h
      clear ev24
      refine lv_goto (tgt := 45) hx hb dX12_sample_37 (by decide) ?_
      have hl := lv_sub hl [] rfl
      exact tr_sample_b45 E hA hR hml (fun H locs ls G => W.iret (v := r1) hx hb hr (fun t ht hW => ⟨⟨r1, S1, rfl, ⟨rfl, rfl⟩, ⟨by rw [ht]; exact G.1, va_K.moved hW.alike hK, G.2.1⟩⟩, G.2.2.F ht⟩) G.2.2.2.2 dX12_sample_13) (fun H locs ls G => W.iret (v := r1) hx hb hr (fun t ht hW => ⟨⟨r1, S1, rfl, ⟨rfl, rfl⟩, ⟨by rw [ht]; exact G.1, va_K.moved hW.alike hK, G.2.1⟩⟩, G.2.2.F ht⟩) G.2.2.2.2 dX12_sample_45) _ _ _ _ _ h G hl
  · have h := oif_pos c10 h
    refine lv_iconst (v := 0) hx hb dX12_sample_12 (by decide) ?_
    exact W.iret (v := 0) hx hb hr (fun t ht hW => ⟨⟨0, S6, rfl, osome2 h, ⟨by rw [ht]; exact G.1, va_K.moved hW.alike hK, G.2.1⟩⟩, G.2.2.F ht⟩) G.2.2.2.2 dX12_sample_13
def fr_beamAt_12_b78 (k5 : MS → Int32 → Int32 → Int32 → Option (Int32 × MS)) (S : MS) (s0 : Int32) (s1 : Int32) (l2 : Int32) (l4 : Int32) : Option (Int32 × MS) := elet (s1 + s0) fun v2 => elet (l4 + Int32.ofInt (1)) fun v3 => k5 S l2 v2 v3
set_option maxHeartbeats 4000000 in
set_option maxRecDepth 100000 in
theorem tr_beamAt_12_b78 {p : Program} {l : Launch} {e : Env} {s : State} {m : MethodId} {args : Array Value} {below : List Frame} {meth : Method} {c : Code} {Q : State → Prop} {D : va_G} {A : Nat → Prop} {H0 : Heap} {cI cJ cZ : ClassId} {ad : Nat → Nat} {r1 : Int32} {S1 : MS} (E : mE p c cX12_beamAt s m args (Cond.code yX12_beamAt cX12_beamAt 5 (some .int) :: wsM) D cI cJ cZ) (hA : ∀ q : Nat, H0.size ≤ q → A q) (hR : sR s) (hml : c.maxLocals = 5) (kr87 : ∀ (H : Heap) (locs : List Loc) (ls : Array Slot), mG D cI cJ cZ ad A H0 H locs S1 → W p l e { frames := 2, cells := 0, slots := 0, locals := 22 } s m args below meth c H locs 0 0 Q (F0 m 87 ls [.int r1])) {k5 : MS → Int32 → Int32 → Int32 → Option (Int32 × MS)} (hk5 : ∀ (S : MS) (H : Heap) (locs : List Loc) (ls : Array Slot) (l2 : Int32) (l3 : Int32) (l4 : Int32), k5 S l2 l3 l4 = some (r1, S1) → mG D cI cJ cZ ad A H0 H locs S → lv_has ls 5 [(0, .ref (ad 0)), (1, .ref (ad 12)), (2, .int l2), (3, .int l3), (4, .int l4)] → W p l e { frames := 2, cells := 0, slots := 0, locals := 22 } s m args below meth c H locs 0 0 Q (F0 m 5 ls [])) : ∀ (S : MS) (H : Heap) (locs : List Loc) (ls : Array Slot) (s0 : Int32) (s1 : Int32) (l2 : Int32) (l4 : Int32), fr_beamAt_12_b78 k5 S s0 s1 l2 l4 = some (r1, S1) → mG D cI cJ cZ ad A H0 H locs S → lv_has ls 5 [(0, .ref (ad 0)), (1, .ref (ad 12)), (2, .int l2), (4, .int l4)] → W p l e { frames := 2, cells := 0, slots := 0, locals := 22 } s m args below meth c H locs 0 0 Q (F0 m 78 ls [.int s0, .int s1]) := by
  have hx := E.1
  have hb := E.2.1
  have hts := E.2.2.1
  have hown := E.2.2.2.1
  have hK := E.2.2.2.2.1
  intro S H locs ls s0 s1 l2 l4 h G hl
  unfold fr_beamAt_12_b78 at h
  refine lv_iadd hx hb dX12_beamAt_78 ?_
  refine lv_topi (fun v2 ev2 => ?_)
  have h := elet_at ev2 h
  clear ev2
  refine lv_istore_n (lv' := [(3, .int v2), (0, .ref (ad 0)), (1, .ref (ad 12)), (2, .int l2), (4, .int l4)]) hx hb dX12_beamAt_79 rfl hl (by decide) rfl (fun ls hl => ?_)
  obtain ⟨v3, ev3, h⟩ := elet_some h
  refine lv_iinc (v := v3) (lv' := [(4, .int v3), (3, .int v2), (0, .ref (ad 0)), (1, .ref (ad 12)), (2, .int l2)]) hx hb dX12_beamAt_80 hl (k := 4) rfl ev3.symm (by decide) rfl (fun ls hl => ?_)
  refine lv_goto (tgt := 5) hx hb dX12_beamAt_83 (by decide) ?_
  have hl := lv_sub hl [2, 3, 4, 1, 0] rfl
  exact hk5 _ _ _ _ _ _ _ h G hl
def fr_beamAt_12_b77 (k5 : MS → Int32 → Int32 → Int32 → Option (Int32 × MS)) (S : MS) (s0 : Int32) (l2 : Int32) (l4 : Int32) : Option (Int32 × MS) := fr_beamAt_12_b78 k5 S 0 s0 l2 l4
set_option maxHeartbeats 4000000 in
set_option maxRecDepth 100000 in
theorem tr_beamAt_12_b77 {p : Program} {l : Launch} {e : Env} {s : State} {m : MethodId} {args : Array Value} {below : List Frame} {meth : Method} {c : Code} {Q : State → Prop} {D : va_G} {A : Nat → Prop} {H0 : Heap} {cI cJ cZ : ClassId} {ad : Nat → Nat} {r1 : Int32} {S1 : MS} (E : mE p c cX12_beamAt s m args (Cond.code yX12_beamAt cX12_beamAt 5 (some .int) :: wsM) D cI cJ cZ) (hA : ∀ q : Nat, H0.size ≤ q → A q) (hR : sR s) (hml : c.maxLocals = 5) (kr87 : ∀ (H : Heap) (locs : List Loc) (ls : Array Slot), mG D cI cJ cZ ad A H0 H locs S1 → W p l e { frames := 2, cells := 0, slots := 0, locals := 22 } s m args below meth c H locs 0 0 Q (F0 m 87 ls [.int r1])) {k5 : MS → Int32 → Int32 → Int32 → Option (Int32 × MS)} (hk5 : ∀ (S : MS) (H : Heap) (locs : List Loc) (ls : Array Slot) (l2 : Int32) (l3 : Int32) (l4 : Int32), k5 S l2 l3 l4 = some (r1, S1) → mG D cI cJ cZ ad A H0 H locs S → lv_has ls 5 [(0, .ref (ad 0)), (1, .ref (ad 12)), (2, .int l2), (3, .int l3), (4, .int l4)] → W p l e { frames := 2, cells := 0, slots := 0, locals := 22 } s m args below meth c H locs 0 0 Q (F0 m 5 ls [])) : ∀ (S : MS) (H : Heap) (locs : List Loc) (ls : Array Slot) (s0 : Int32) (l2 : Int32) (l4 : Int32), fr_beamAt_12_b77 k5 S s0 l2 l4 = some (r1, S1) → mG D cI cJ cZ ad A H0 H locs S → lv_has ls 5 [(0, .ref (ad 0)), (1, .ref (ad 12)), (2, .int l2), (4, .int l4)] → W p l e { frames := 2, cells := 0, slots := 0, locals := 22 } s m args below meth c H locs 0 0 Q (F0 m 77 ls [.int s0]) := by
  have hx := E.1
  have hb := E.2.1
  have hts := E.2.2.1
  have hown := E.2.2.2.1
  have hK := E.2.2.2.2.1
  intro S H locs ls s0 l2 l4 h G hl
  unfold fr_beamAt_12_b77 at h
  refine lv_iconst (v := 0) hx hb dX12_beamAt_77 (by decide) ?_
  have hl := lv_sub hl [0, 1, 2, 3] rfl
  exact tr_beamAt_12_b78 E hA hR hml kr87 hk5 _ _ _ _ _ _ _ _ h G hl
def fr_beamAt_12_b5  : Nat → MS → Int32 → Int32 → Int32 → Option (Int32 × MS)
  | 0, _, _, _, _ => none
  | n + 1, S, l2, l3, l4 => elet (S.2.1 10 4) fun v2 => if v2 ≤ l4 then (some (l3, S)) else (obind2 (fr_hears_12 S l4) fun r7 S4 => if r7 = 0 then (fr_beamAt_12_b77 (fr_beamAt_12_b5 n) S4 l3 l2 l4) else (oif (inb l4 12 = true) <| elet (S4.2.1 24 l4.toNatClampNeg) fun v10 => elet (l2 + v10) fun v11 => elet (S4.2.1 10 2) fun v12 => if v12 ≤ v11 then (fr_beamAt_12_b77 (fr_beamAt_12_b5 n) S4 l3 l2 l4) else (elet (13 + l4) fun v14 => oif (inb v14 2455 = true) <| elet (S4.2.1 12 v14.toNatClampNeg) fun v16 => elet (200 * l4) fun v17 => elet (55 + v17) fun v18 => elet (v18 + l2) fun v19 => oif (inb l4 12 = true) <| elet (S4.2.1 24 l4.toNatClampNeg) fun v21 => elet (v19 + v21) fun v22 => oif (inb v22 2455 = true) <| elet (S4.2.1 12 v22.toNatClampNeg) fun v24 => elet (v16 * v24) fun v25 => fr_beamAt_12_b78 (fr_beamAt_12_b5 n) S4 v25 l3 l2 l4)))
set_option maxHeartbeats 4000000 in
set_option maxRecDepth 100000 in
theorem tr_beamAt_12_b5 {p : Program} {l : Launch} {e : Env} {s : State} {m : MethodId} {args : Array Value} {below : List Frame} {meth : Method} {c : Code} {Q : State → Prop} {D : va_G} {A : Nat → Prop} {H0 : Heap} {cI cJ cZ : ClassId} {ad : Nat → Nat} {r1 : Int32} {S1 : MS} (E : mE p c cX12_beamAt s m args (Cond.code yX12_beamAt cX12_beamAt 5 (some .int) :: wsM) D cI cJ cZ) (hA : ∀ q : Nat, H0.size ≤ q → A q) (hR : sR s) (hml : c.maxLocals = 5) (kr87 : ∀ (H : Heap) (locs : List Loc) (ls : Array Slot), mG D cI cJ cZ ad A H0 H locs S1 → W p l e { frames := 2, cells := 0, slots := 0, locals := 22 } s m args below meth c H locs 0 0 Q (F0 m 87 ls [.int r1])) : ∀ n : Nat, ∀ (S : MS) (H : Heap) (locs : List Loc) (ls : Array Slot) (l2 : Int32) (l3 : Int32) (l4 : Int32), fr_beamAt_12_b5 n S l2 l3 l4 = some (r1, S1) → mG D cI cJ cZ ad A H0 H locs S → lv_has ls 5 [(0, .ref (ad 0)), (1, .ref (ad 12)), (2, .int l2), (3, .int l3), (4, .int l4)] → W p l e { frames := 2, cells := 0, slots := 0, locals := 22 } s m args below meth c H locs 0 0 Q (F0 m 5 ls []) := by
  have hx := E.1
  have hb := E.2.1
  have hts := E.2.2.1
  have hown := E.2.2.2.1
  have hK := E.2.2.2.2.1
  intro n
  induction n with
  | zero =>
    intro S H locs ls l2 l3 l4 h
    have h : (none : Option (Int32 × MS)) = some (r1, S1) := h
    cases h
  | succ n ih =>
    intro S H locs ls l2 l3 l4 h G hl
    unfold fr_beamAt_12_b5 at h
    refine lv_iload hx hb dX12_beamAt_5 (lv_at hl 4 rfl) ?_
    refine lv_aload_n hx hb dX12_beamAt_7 rfl (lv_at hl 0 rfl) ?_
    refine m_get E G 10 (v := .ref (ad 10)) (by decide) (.tail _ qM_7) rfl dX12_beamAt_8 rfl ?_
    refine lv_iconst (v := 4) hx hb dX12_beamAt_11 (by decide) ?_
    refine m_iald E G 10 2 (n := 131) (k := 4) rfl rfl (by decide) (by decide) dX12_beamAt_12 ?_
    refine lv_topi (fun v2 ev2 => ?_)
    have h := elet_at ev2 h
    clear ev2
    refine lv_icmp_ge (tgt := 86) hx hb dX12_beamAt_13 (by decide) (fun c3 => ?_) (fun c3 => ?_)
    · have h := oif_pos c3 h
      refine lv_iload_n hx hb dX12_beamAt_86 rfl (lv_at hl 3 rfl) ?_
      rw [(osome2 h).2] at G
      refine lv_to (osome2 h).1 ?_
      exact kr87 _ _ _ G
    · have h := oif_neg c3 h
      refine lv_iload_n hx hb dX12_beamAt_16 rfl (lv_at hl 3 rfl) ?_
      refine lv_aload_n hx hb dX12_beamAt_17 rfl (lv_at hl 0 rfl) ?_
      refine lv_aload_n hx hb dX12_beamAt_18 rfl (lv_at hl 1 rfl) ?_
      refine lv_iload hx hb dX12_beamAt_19 (lv_at hl 4 rfl) ?_
      obtain ⟨r7, S4, eS4, h⟩ := obind2_some h
      refine m_calli (As := [.ref (ad 12), .int l4]) (rest := [.int l3]) E G hA hR hml (tr_hears_12 l D cI cJ cZ ad S l4 eS4) (cwV 2 hts (gmV qM_274 qM_275 qM_276 qM_35 qM_272) rfl rfl rfl (by decide +kernel) ⟨Nat.le_of_ble_eq_true rfl, Nat.le_of_ble_eq_true rfl⟩) rfl hl.1 rfl (lv_room (Nat.le_of_ble_eq_true rfl)) dX12_beamAt_21 ⟨Nat.zero_le _, Nat.zero_le _⟩ (fun q5 S6 H locs hq G => ?_)
      obtain ⟨hq1, hq2⟩ := hq
      rw [hq2] at G
      refine lv_to hq1 ?_
      clear hq1 hq2 eS4
      refine lv_if_eq (tgt := 77) hx hb dX12_beamAt_24 (by decide) (fun c8 => ?_) (fun c8 => ?_)
      · have h := oif_pos c8 h
        have hl := lv_sub hl [0, 1, 2, 4] rfl
        exact tr_beamAt_12_b77 E hA hR hml kr87 ih _ _ _ _ _ _ _ h G hl
      · have h := oif_neg c8 h
        refine lv_iload_n hx hb dX12_beamAt_27 rfl (lv_at hl 2 rfl) ?_
        refine lv_aload_n hx hb dX12_beamAt_28 rfl (lv_at hl 0 rfl) ?_
        refine m_get E G 24 (v := .ref (ad 24)) (by decide) (.tail _ qM_19) rfl dX12_beamAt_29 rfl ?_
        refine lv_iload hx hb dX12_beamAt_32 (lv_at hl 4 rfl) ?_
        obtain ⟨g9, h⟩ := oif_some h
        refine m_iald E G 24 12 (n := 12) (k := l4.toNatClampNeg) rfl (inb_k g9).1 (inb_k g9).2 (by decide) dX12_beamAt_34 ?_
        refine lv_topi (fun v10 ev10 => ?_)
        have h := elet_at ev10 h
        clear ev10
        refine lv_iadd hx hb dX12_beamAt_35 ?_
        refine lv_topi (fun v11 ev11 => ?_)
        have h := elet_at ev11 h
        clear ev11
        refine lv_aload_n hx hb dX12_beamAt_36 rfl (lv_at hl 0 rfl) ?_
        refine m_get E G 10 (v := .ref (ad 10)) (by decide) (.tail _ qM_7) rfl dX12_beamAt_37 rfl ?_
        refine lv_iconst (v := 2) hx hb dX12_beamAt_40 (by decide) ?_
        refine m_iald E G 10 2 (n := 131) (k := 2) rfl rfl (by decide) (by decide) dX12_beamAt_41 ?_
        refine lv_topi (fun v12 ev12 => ?_)
        have h := elet_at ev12 h
        clear ev12
        refine lv_icmp_ge (tgt := 77) hx hb dX12_beamAt_42 (by decide) (fun c13 => ?_) (fun c13 => ?_)
        · have h := oif_pos c13 h
          have hl := lv_sub hl [0, 1, 2, 4] rfl
          exact tr_beamAt_12_b77 E hA hR hml kr87 ih _ _ _ _ _ _ _ h G hl
        · have h := oif_neg c13 h
          refine lv_aload_n hx hb dX12_beamAt_45 rfl (lv_at hl 1 rfl) ?_
          refine lv_bipush (v := 13) hx hb dX12_beamAt_46 (by decide) ?_
          refine lv_iload hx hb dX12_beamAt_48 (lv_at hl 4 rfl) ?_
          refine lv_iadd hx hb dX12_beamAt_50 ?_
          refine lv_topi (fun v14 ev14 => ?_)
          have h := elet_at ev14 h
          clear ev14
          obtain ⟨g15, h⟩ := oif_some h
          refine m_iald E G 12 4 (n := 2455) (k := v14.toNatClampNeg) rfl (inb_k g15).1 (inb_k g15).2 (by decide) dX12_beamAt_51 ?_
          refine lv_topi (fun v16 ev16 => ?_)
          have h := elet_at ev16 h
          clear ev16
          refine lv_aload_n hx hb dX12_beamAt_52 rfl (lv_at hl 1 rfl) ?_
          refine lv_bipush (v := 55) hx hb dX12_beamAt_53 (by decide) ?_
          refine lv_sipush (v := 200) hx hb dX12_beamAt_55 (by decide) ?_
          refine lv_iload hx hb dX12_beamAt_58 (lv_at hl 4 rfl) ?_
          refine lv_imul hx hb dX12_beamAt_60 ?_
          refine lv_topi (fun v17 ev17 => ?_)
          have h := elet_at ev17 h
          clear ev17
          refine lv_iadd hx hb dX12_beamAt_61 ?_
          refine lv_topi (fun v18 ev18 => ?_)
          have h := elet_at ev18 h
          clear ev18
          refine lv_iload_n hx hb dX12_beamAt_62 rfl (lv_at hl 2 rfl) ?_
          refine lv_iadd hx hb dX12_beamAt_63 ?_
          refine lv_topi (fun v19 ev19 => ?_)
          have h := elet_at ev19 h
          clear ev19
          refine lv_aload_n hx hb dX12_beamAt_64 rfl (lv_at hl 0 rfl) ?_
          refine m_get E G 24 (v := .ref (ad 24)) (by decide) (.tail _ qM_19) rfl dX12_beamAt_65 rfl ?_
          refine lv_iload hx hb dX12_beamAt_68 (lv_at hl 4 rfl) ?_
          obtain ⟨g20, h⟩ := oif_some h
          refine m_iald E G 24 12 (n := 12) (k := l4.toNatClampNeg) rfl (inb_k g20).1 (inb_k g20).2 (by decide) dX12_beamAt_70 ?_
          refine lv_topi (fun v21 ev21 => ?_)
          have h := elet_at ev21 h
          clear ev21
          refine lv_iadd hx hb dX12_beamAt_71 ?_
          refine lv_topi (fun v22 ev22 => ?_)
          have h := elet_at ev22 h
          clear ev22
          obtain ⟨g23, h⟩ := oif_some h
          refine m_iald E G 12 4 (n := 2455) (k := v22.toNatClampNeg) rfl (inb_k g23).1 (inb_k g23).2 (by decide) dX12_beamAt_72 ?_
          refine lv_topi (fun v24 ev24 => ?_)
          have h := elet_at ev24 h
          clear ev24
          refine lv_imul hx hb dX12_beamAt_73 ?_
          refine lv_topi (fun v25 ev25 => ?_)
          have h := elet_at ev25 h
          clear ev25
          refine lv_goto (tgt := 78) hx hb dX12_beamAt_74 (by decide) ?_
          have hl := lv_sub hl [0, 1, 2, 4] rfl
          exact tr_beamAt_12_b78 E hA hR hml kr87 ih _ _ _ _ _ _ _ _ h G hl
def fr_beamAt_12 (S : MS) (a1 : Int32) : Option (Int32 × MS) := fr_beamAt_12_b5 16384 S a1 0 0
set_option maxHeartbeats 4000000 in
set_option maxRecDepth 100000 in
theorem tr_beamAt_12 (l : Launch) (D : va_G) (cI cJ cZ : ClassId) (ad : Nat → Nat) (S : MS) (a1 : Int32) {r1 : Int32} {S1 : MS} (h : fr_beamAt_12 S a1 = some (r1, S1)) : mCi l yX12_beamAt (Cond.code yX12_beamAt cX12_beamAt 5 (some .int) :: wsM) 2 22 D cI cJ cZ ad S [.ref (ad 12), .int a1] (fun r S9 => r = r1 ∧ S9 = S1) := by
  intro sz
  refine pro_in (cc := cX12_beamAt) (maxL := 5) (ret := (some .int)) (by exact pn_RX12) rfl (by exact Nat.le_of_ble_eq_true rfl) (fun p e s m below meth c ls hx hb hr hts hown hlocks hml hv hl => ?_)
  obtain ⟨hsz, hP, hK, hD0, hR⟩ := hv
  subst hsz
  have hD := hD0.self (sz := s.heap.size)
  generalize hAe : va_A (MW cI cJ cZ ad S) s.heap.size = A at hD ⊢
  have hA : ∀ q : Nat, s.heap.size ≤ q → A q := fun q h => by rw [← hAe]; exact Or.inr h
  have G : mG D cI cJ cZ ad A s.heap s.heap [] S := ⟨hP, hD, va_S.rf⟩
  have E : mE p c cX12_beamAt s m ([.ref (ad 0), .ref (ad 12), .int a1] : List Value).toArray (Cond.code yX12_beamAt cX12_beamAt 5 (some .int) :: wsM) D cI cJ cZ := ⟨hx, hb, hts, hown, hK, fun w h => .tail _ (iM_x h)⟩
  have hl : lv_has ls 5 [(0, .ref (ad 0)), (1, .ref (ad 12)), (2, .int a1)] := hl
  unfold fr_beamAt_12 at h
  refine lv_iconst (v := 0) hx hb dX12_beamAt_0 (by decide) ?_
  refine lv_istore_n (lv' := [(3, .int 0), (0, .ref (ad 0)), (1, .ref (ad 12)), (2, .int a1)]) hx hb dX12_beamAt_1 rfl hl (by decide) rfl (fun ls hl => ?_)
  refine lv_iconst (v := 0) hx hb dX12_beamAt_2 (by decide) ?_
  refine lv_istore (lv' := [(4, .int 0), (3, .int 0), (0, .ref (ad 0)), (1, .ref (ad 12)), (2, .int a1)]) hx hb dX12_beamAt_3 hl (by decide) rfl (fun ls hl => ?_)
  have hl := lv_sub hl [2, 3, 4, 1, 0] rfl
  exact tr_beamAt_12_b5 E hA hR hml (fun H locs ls G => W.iret (v := r1) hx hb hr (fun t ht hW => ⟨⟨r1, S1, rfl, ⟨rfl, rfl⟩, ⟨by rw [ht]; exact G.1, va_K.moved hW.alike hK, G.2.1⟩⟩, G.2.2.F ht⟩) G.2.2.2.2 dX12_beamAt_87) _ _ _ _ _ _ _ _ h G hl
def fr_beam_b54  (S : MS) (s0 : Int32) : Option (Int32 × MS) := some (s0, S)
set_option maxHeartbeats 4000000 in
set_option maxRecDepth 100000 in
theorem tr_beam_b54 {p : Program} {l : Launch} {e : Env} {s : State} {m : MethodId} {args : Array Value} {below : List Frame} {meth : Method} {c : Code} {Q : State → Prop} {D : va_G} {A : Nat → Prop} {H0 : Heap} {cI cJ cZ : ClassId} {ad : Nat → Nat} {r1 : Int32} {S1 : MS} (E : mE p c cX12_beam s m args (Cond.code yX12_beam cX12_beam 3 (some .int) :: wsM) D cI cJ cZ) (hA : ∀ q : Nat, H0.size ≤ q → A q) (hR : sR s) (hml : c.maxLocals = 3) (kr13 : ∀ (H : Heap) (locs : List Loc) (ls : Array Slot), mG D cI cJ cZ ad A H0 H locs S1 → W p l e { frames := 3, cells := 0, slots := 0, locals := 46 } s m args below meth c H locs 0 0 Q (F0 m 13 ls [.int r1])) (kr54 : ∀ (H : Heap) (locs : List Loc) (ls : Array Slot), mG D cI cJ cZ ad A H0 H locs S1 → W p l e { frames := 3, cells := 0, slots := 0, locals := 46 } s m args below meth c H locs 0 0 Q (F0 m 54 ls [.int r1])) : ∀ (S : MS) (H : Heap) (locs : List Loc) (ls : Array Slot) (s0 : Int32), fr_beam_b54 S s0 = some (r1, S1) → mG D cI cJ cZ ad A H0 H locs S → lv_has ls 3 [] → W p l e { frames := 3, cells := 0, slots := 0, locals := 46 } s m args below meth c H locs 0 0 Q (F0 m 54 ls [.int s0]) := by
  have hx := E.1
  have hb := E.2.1
  have hts := E.2.2.1
  have hown := E.2.2.2.1
  have hK := E.2.2.2.2.1
  intro S H locs ls s0 h G hl
  unfold fr_beam_b54 at h
  rw [(osome2 h).2] at G
  refine lv_to (osome2 h).1 ?_
  exact kr54 _ _ _ G
def fr_beam (S : MS) (a0 : Int32) (a1 : Int32) : Option (Int32 × MS) := obind2 (fr_isCell S a0) fun r5 S2 => obind2 (fr_mayAsk S2 r5) fun r9 S6 => if r9 = 0 then (some (0, S6)) else (obind (fr_laysCell S6 a0) fun S11 => obind2 (fr_windowOf_12 S11) fun r17 S14 => elet (r17 - 1) fun v18 => obind (fr_in a1 0 v18) fun r19 => if r19 = 0 then (obind2 (fr_throwsAt S14 3) fun r25 S22 => fr_beam_b54 S22 r25) else (obind2 (fr_beamAt_12 S14 a1) fun r29 S26 => fr_beam_b54 S26 r29))
set_option maxHeartbeats 4000000 in
set_option maxRecDepth 100000 in
theorem tr_beam (l : Launch) (D : va_G) (cI cJ cZ : ClassId) (ad : Nat → Nat) (S : MS) (a0 : Int32) (a1 : Int32) {r1 : Int32} {S1 : MS} (h : fr_beam S a0 a1 = some (r1, S1)) : mCi l yX12_beam (Cond.code yX12_beam cX12_beam 3 (some .int) :: wsM) 3 46 D cI cJ cZ ad S [.int a0, .int a1] (fun r S9 => r = r1 ∧ S9 = S1) := by
  intro sz
  refine pro_in (cc := cX12_beam) (maxL := 3) (ret := (some .int)) (by exact pn_RX12) rfl (by exact Nat.le_of_ble_eq_true rfl) (fun p e s m below meth c ls hx hb hr hts hown hlocks hml hv hl => ?_)
  obtain ⟨hsz, hP, hK, hD0, hR⟩ := hv
  subst hsz
  have hD := hD0.self (sz := s.heap.size)
  generalize hAe : va_A (MW cI cJ cZ ad S) s.heap.size = A at hD ⊢
  have hA : ∀ q : Nat, s.heap.size ≤ q → A q := fun q h => by rw [← hAe]; exact Or.inr h
  have G : mG D cI cJ cZ ad A s.heap s.heap [] S := ⟨hP, hD, va_S.rf⟩
  have E : mE p c cX12_beam s m ([.ref (ad 0), .int a0, .int a1] : List Value).toArray (Cond.code yX12_beam cX12_beam 3 (some .int) :: wsM) D cI cJ cZ := ⟨hx, hb, hts, hown, hK, fun w h => .tail _ (iM_x h)⟩
  have hl : lv_has ls 3 [(0, .ref (ad 0)), (1, .int a0), (2, .int a1)] := hl
  unfold fr_beam at h
  refine lv_aload_n hx hb dX12_beam_0 rfl (lv_at hl 0 rfl) ?_
  refine lv_aload_n hx hb dX12_beam_1 rfl (lv_at hl 0 rfl) ?_
  refine lv_iload_n hx hb dX12_beam_2 rfl (lv_at hl 1 rfl) ?_
  obtain ⟨r5, S2, eS2, h⟩ := obind2_some h
  refine m_calli (As := [.int a0]) (rest := [.ref (ad 0)]) E G hA hR hml (tr_isCell l D cI cJ cZ ad S a0 eS2) (cwV 1 hts (gmV qM_326 qM_327 qM_328 qM_35 qM_307) rfl rfl rfl (by decide +kernel) ⟨Nat.le_of_ble_eq_true rfl, Nat.le_of_ble_eq_true rfl⟩) rfl hl.1 rfl (lv_room (Nat.le_of_ble_eq_true rfl)) dX12_beam_3 ⟨Nat.zero_le _, Nat.zero_le _⟩ (fun q3 S4 H locs hq G => ?_)
  obtain ⟨hq1, hq2⟩ := hq
  rw [hq2] at G
  refine lv_to hq1 ?_
  clear hq1 hq2 eS2
  obtain ⟨r9, S6, eS6, h⟩ := obind2_some h
  refine m_calli (As := [.int r5]) (rest := []) E G hA hR hml (tr_mayAsk l D cI cJ cZ ad S2 r5 eS6) (cwV 1 hts (gmV qM_319 qM_320 qM_321 qM_35 qM_304) rfl rfl rfl (by decide +kernel) ⟨Nat.le_of_ble_eq_true rfl, Nat.le_of_ble_eq_true rfl⟩) rfl hl.1 rfl (lv_room (Nat.le_of_ble_eq_true rfl)) dX12_beam_6 ⟨Nat.zero_le _, Nat.zero_le _⟩ (fun q7 S8 H locs hq G => ?_)
  obtain ⟨hq1, hq2⟩ := hq
  rw [hq2] at G
  refine lv_to hq1 ?_
  clear hq1 hq2 eS6
  refine lv_if_ne (tgt := 14) hx hb dX12_beam_9 (by decide) (fun c10 => ?_) (fun c10 => ?_)
  · have h := oif_neg c10 h
    refine lv_aload_n hx hb dX12_beam_14 rfl (lv_at hl 0 rfl) ?_
    refine lv_iload_n hx hb dX12_beam_15 rfl (lv_at hl 1 rfl) ?_
    obtain ⟨S11, eS11, h⟩ := obind_some h
    refine m_callv (As := [.int a0]) (rest := []) E G hA hR hml (tr_laysCell l D cI cJ cZ ad S6 a0 eS11) (cwV 1 hts (gmV qM_290 qM_291 qM_292 qM_35 qM_270) rfl rfl rfl (by decide +kernel) ⟨Nat.le_of_ble_eq_true rfl, Nat.le_of_ble_eq_true rfl⟩) rfl hl.1 rfl (lv_room (Nat.le_of_ble_eq_true rfl)) dX12_beam_16 ⟨Nat.zero_le _, Nat.zero_le _⟩ (fun S13 H locs hq G => ?_)
    rw [hq] at G
    clear hq eS11
    refine lv_iload_n hx hb dX12_beam_19 rfl (lv_at hl 2 rfl) ?_
    refine lv_iconst (v := 0) hx hb dX12_beam_20 (by decide) ?_
    refine lv_aload_n hx hb dX12_beam_21 rfl (lv_at hl 0 rfl) ?_
    refine lv_aload_n hx hb dX12_beam_22 rfl (lv_at hl 0 rfl) ?_
    refine m_get E G 12 (v := .ref (ad 12)) (by decide) (.tail _ qM_9) rfl dX12_beam_23 rfl ?_
    obtain ⟨r17, S14, eS14, h⟩ := obind2_some h
    refine m_calli (As := [.ref (ad 12)]) (rest := [.int 0, .int a1]) E G hA hR hml (tr_windowOf_12 l D cI cJ cZ ad S11 eS14) (cwV 1 hts (gmV qM_283 qM_284 qM_285 qM_35 qM_273) rfl rfl rfl (by decide +kernel) ⟨Nat.le_of_ble_eq_true rfl, Nat.le_of_ble_eq_true rfl⟩) rfl hl.1 rfl (lv_room (Nat.le_of_ble_eq_true rfl)) dX12_beam_26 ⟨Nat.zero_le _, Nat.zero_le _⟩ (fun q15 S16 H locs hq G => ?_)
    obtain ⟨hq1, hq2⟩ := hq
    rw [hq2] at G
    refine lv_to hq1 ?_
    clear hq1 hq2 eS14
    refine lv_iconst (v := 1) hx hb dX12_beam_29 (by decide) ?_
    refine lv_isub hx hb dX12_beam_30 ?_
    refine lv_topi (fun v18 ev18 => ?_)
    have h := elet_at ev18 h
    clear ev18
    obtain ⟨r19, er19, h⟩ := obind_some h
    refine m_stat (As := [.int a1, .int 0, .int v18]) (rest := []) ⟨hx, hb, hml, hown, hts⟩ (tr_in l a1 0 v18 er19) (cwS 3 hts (gmS qM_52 qM_53 qM_35 qM_27) rfl rfl rfl (by decide +kernel) ⟨Nat.le_of_ble_eq_true rfl, Nat.le_of_ble_eq_true rfl⟩) rfl hl.1 rfl (lv_room (Nat.le_of_ble_eq_true rfl)) dX12_beam_31 ⟨Nat.zero_le _, Nat.zero_le _⟩ (fun q20 hq => ?_)
    refine lv_to hq ?_
    clear hq er19
    refine lv_if_eq (tgt := 49) hx hb dX12_beam_34 (by decide) (fun c21 => ?_) (fun c21 => ?_)
    · have h := oif_pos c21 h
      refine lv_aload_n hx hb dX12_beam_49 rfl (lv_at hl 0 rfl) ?_
      refine lv_iconst (v := 3) hx hb dX12_beam_50 (by decide) ?_
      obtain ⟨r25, S22, eS22, h⟩ := obind2_some h
      refine m_calli (As := [.int 3]) (rest := []) E G hA hR hml (tr_throwsAt l D cI cJ cZ ad S14 3 eS22) (cwV 1 hts (gmV qM_195 qM_196 qM_197 qM_35 qM_28) rfl rfl rfl (by decide +kernel) ⟨Nat.le_of_ble_eq_true rfl, Nat.le_of_ble_eq_true rfl⟩) rfl hl.1 rfl (lv_room (Nat.le_of_ble_eq_true rfl)) dX12_beam_51 ⟨Nat.zero_le _, Nat.zero_le _⟩ (fun q23 S24 H locs hq G => ?_)
      obtain ⟨hq1, hq2⟩ := hq
      rw [hq2] at G
      refine lv_to hq1 ?_
      clear hq1 hq2 eS22
      have hl := lv_sub hl [] rfl
      exact tr_beam_b54 E hA hR hml (fun H locs ls G => W.iret (v := r1) hx hb hr (fun t ht hW => ⟨⟨r1, S1, rfl, ⟨rfl, rfl⟩, ⟨by rw [ht]; exact G.1, va_K.moved hW.alike hK, G.2.1⟩⟩, G.2.2.F ht⟩) G.2.2.2.2 dX12_beam_13) (fun H locs ls G => W.iret (v := r1) hx hb hr (fun t ht hW => ⟨⟨r1, S1, rfl, ⟨rfl, rfl⟩, ⟨by rw [ht]; exact G.1, va_K.moved hW.alike hK, G.2.1⟩⟩, G.2.2.F ht⟩) G.2.2.2.2 dX12_beam_54) _ _ _ _ _ h G hl
    · have h := oif_neg c21 h
      refine lv_aload_n hx hb dX12_beam_37 rfl (lv_at hl 0 rfl) ?_
      refine lv_aload_n hx hb dX12_beam_38 rfl (lv_at hl 0 rfl) ?_
      refine m_get E G 12 (v := .ref (ad 12)) (by decide) (.tail _ qM_9) rfl dX12_beam_39 rfl ?_
      refine lv_iload_n hx hb dX12_beam_42 rfl (lv_at hl 2 rfl) ?_
      obtain ⟨r29, S26, eS26, h⟩ := obind2_some h
      refine m_calli (As := [.ref (ad 12), .int a1]) (rest := []) E G hA hR hml (tr_beamAt_12 l D cI cJ cZ ad S14 a1 eS26) (cwV 2 hts (gmV qM_279 qM_280 qM_281 qM_35 qM_277) rfl rfl rfl (by decide +kernel) ⟨Nat.le_of_ble_eq_true rfl, Nat.le_of_ble_eq_true rfl⟩) rfl hl.1 rfl (lv_room (Nat.le_of_ble_eq_true rfl)) dX12_beam_43 ⟨Nat.zero_le _, Nat.zero_le _⟩ (fun q27 S28 H locs hq G => ?_)
      obtain ⟨hq1, hq2⟩ := hq
      rw [hq2] at G
      refine lv_to hq1 ?_
      clear hq1 hq2 eS26
      refine lv_goto (tgt := 54) hx hb dX12_beam_46 (by decide) ?_
      have hl := lv_sub hl [] rfl
      exact tr_beam_b54 E hA hR hml (fun H locs ls G => W.iret (v := r1) hx hb hr (fun t ht hW => ⟨⟨r1, S1, rfl, ⟨rfl, rfl⟩, ⟨by rw [ht]; exact G.1, va_K.moved hW.alike hK, G.2.1⟩⟩, G.2.2.F ht⟩) G.2.2.2.2 dX12_beam_13) (fun H locs ls G => W.iret (v := r1) hx hb hr (fun t ht hW => ⟨⟨r1, S1, rfl, ⟨rfl, rfl⟩, ⟨by rw [ht]; exact G.1, va_K.moved hW.alike hK, G.2.1⟩⟩, G.2.2.F ht⟩) G.2.2.2.2 dX12_beam_54) _ _ _ _ _ h G hl
  · have h := oif_pos c10 h
    refine lv_iconst (v := 0) hx hb dX12_beam_12 (by decide) ?_
    exact W.iret (v := 0) hx hb hr (fun t ht hW => ⟨⟨0, S6, rfl, osome2 h, ⟨by rw [ht]; exact G.1, va_K.moved hW.alike hK, G.2.1⟩⟩, G.2.2.F ht⟩) G.2.2.2.2 dX12_beam_13
def fr_energy_12_b6  : Nat → MS → Int32 → Int64 → Int32 → Option (Int64 × MS)
  | 0, _, _, _, _ => none
  | n + 1, S, l3, l4, l6 => if l3 ≤ l6 then (some (l4, S)) else (obind2 (fr_beamAt_12 S l6) fun r6 S3 => elet (r6.toInt64) fun v7 => elet (v7 * v7) fun v8 => elet (l4 + v8) fun v9 => elet (l6 + Int32.ofInt (1)) fun v10 => fr_energy_12_b6 n S3 l3 v9 v10)
set_option maxHeartbeats 4000000 in
set_option maxRecDepth 100000 in
theorem tr_energy_12_b6 {p : Program} {l : Launch} {e : Env} {s : State} {m : MethodId} {args : Array Value} {below : List Frame} {meth : Method} {c : Code} {Q : State → Prop} {D : va_G} {A : Nat → Prop} {H0 : Heap} {cI cJ cZ : ClassId} {ad : Nat → Nat} {r1 : Int64} {S1 : MS} (E : mE p c cX12_energy s m args (Cond.code yX12_energy cX12_energy 9 (some .long) :: wsM) D cI cJ cZ) (hA : ∀ q : Nat, H0.size ≤ q → A q) (hR : sR s) (hml : c.maxLocals = 9) (kr40 : ∀ (H : Heap) (locs : List Loc) (ls : Array Slot), mG D cI cJ cZ ad A H0 H locs S1 → W p l e { frames := 3, cells := 0, slots := 0, locals := 46 } s m args below meth c H locs 0 0 Q (F0 m 40 ls [.long r1])) : ∀ n : Nat, ∀ (S : MS) (H : Heap) (locs : List Loc) (ls : Array Slot) (l3 : Int32) (l4 : Int64) (l6 : Int32), fr_energy_12_b6 n S l3 l4 l6 = some (r1, S1) → mG D cI cJ cZ ad A H0 H locs S → lv_has ls 9 [(0, .ref (ad 0)), (1, .ref (ad 12)), (3, .int l3), (4, .long l4), (6, .int l6)] → W p l e { frames := 3, cells := 0, slots := 0, locals := 46 } s m args below meth c H locs 0 0 Q (F0 m 6 ls []) := by
  have hx := E.1
  have hb := E.2.1
  have hts := E.2.2.1
  have hown := E.2.2.2.1
  have hK := E.2.2.2.2.1
  intro n
  induction n with
  | zero =>
    intro S H locs ls l3 l4 l6 h
    have h : (none : Option (Int64 × MS)) = some (r1, S1) := h
    cases h
  | succ n ih =>
    intro S H locs ls l3 l4 l6 h G hl
    unfold fr_energy_12_b6 at h
    refine lv_iload hx hb dX12_energy_6 (lv_at hl 4 rfl) ?_
    refine lv_iload_n hx hb dX12_energy_8 rfl (lv_at hl 2 rfl) ?_
    refine lv_icmp_ge (tgt := 38) hx hb dX12_energy_9 (by decide) (fun c2 => ?_) (fun c2 => ?_)
    · have h := oif_pos c2 h
      refine lv_lload hx hb dX12_energy_38 (lv_at hl 3 rfl) ?_
      rw [(osome2 h).2] at G
      refine lv_tol (osome2 h).1 ?_
      exact kr40 _ _ _ G
    · have h := oif_neg c2 h
      refine lv_aload_n hx hb dX12_energy_12 rfl (lv_at hl 0 rfl) ?_
      refine lv_aload_n hx hb dX12_energy_13 rfl (lv_at hl 1 rfl) ?_
      refine lv_iload hx hb dX12_energy_14 (lv_at hl 4 rfl) ?_
      obtain ⟨r6, S3, eS3, h⟩ := obind2_some h
      refine m_calli (As := [.ref (ad 12), .int l6]) (rest := []) E G hA hR hml (tr_beamAt_12 l D cI cJ cZ ad S l6 eS3) (cwV 2 hts (gmV qM_279 qM_280 qM_281 qM_35 qM_277) rfl rfl rfl (by decide +kernel) ⟨Nat.le_of_ble_eq_true rfl, Nat.le_of_ble_eq_true rfl⟩) rfl hl.1 rfl (lv_room (Nat.le_of_ble_eq_true rfl)) dX12_energy_16 ⟨Nat.zero_le _, Nat.zero_le _⟩ (fun q4 S5 H locs hq G => ?_)
      obtain ⟨hq1, hq2⟩ := hq
      rw [hq2] at G
      refine lv_to hq1 ?_
      clear hq1 hq2 eS3
      refine lv_i2l (v := r6.toInt64) hx hb dX12_energy_19 rfl ?_
      refine lv_topl (fun v7 ev7 => ?_)
      have h := elet_at ev7 h
      clear ev7
      refine lv_lstore (lv' := [(7, .long v7), (0, .ref (ad 0)), (1, .ref (ad 12)), (3, .int l3), (4, .long l4), (6, .int l6)]) hx hb dX12_energy_20 hl (by decide) rfl (fun ls hl => ?_)
      refine lv_lload hx hb dX12_energy_22 (lv_at hl 4 rfl) ?_
      refine lv_lload hx hb dX12_energy_24 (lv_at hl 0 rfl) ?_
      refine lv_lload hx hb dX12_energy_26 (lv_at hl 0 rfl) ?_
      refine lv_lmul hx hb dX12_energy_28 ?_
      refine lv_topl (fun v8 ev8 => ?_)
      have h := elet_at ev8 h
      clear ev8
      refine lv_ladd hx hb dX12_energy_29 ?_
      refine lv_topl (fun v9 ev9 => ?_)
      have h := elet_at ev9 h
      clear ev9
      refine lv_lstore (lv' := [(4, .long v9), (7, .long v7), (0, .ref (ad 0)), (1, .ref (ad 12)), (3, .int l3), (6, .int l6)]) hx hb dX12_energy_30 hl (by decide) rfl (fun ls hl => ?_)
      obtain ⟨v10, ev10, h⟩ := elet_some h
      refine lv_iinc (v := v10) (lv' := [(6, .int v10), (4, .long v9), (7, .long v7), (0, .ref (ad 0)), (1, .ref (ad 12)), (3, .int l3)]) hx hb dX12_energy_32 hl (k := 5) rfl ev10.symm (by decide) rfl (fun ls hl => ?_)
      refine lv_goto (tgt := 6) hx hb dX12_energy_35 (by decide) ?_
      have hl := lv_sub hl [3, 4, 5, 1, 0] rfl
      exact ih _ _ _ _ _ _ _ h G hl
def fr_energy_12 (S : MS) (a1 : Int32) (a2 : Int32) : Option (Int64 × MS) := fr_energy_12_b6 16384 S a2 (0 : Int64) a1
set_option maxHeartbeats 4000000 in
set_option maxRecDepth 100000 in
theorem tr_energy_12 (l : Launch) (D : va_G) (cI cJ cZ : ClassId) (ad : Nat → Nat) (S : MS) (a1 : Int32) (a2 : Int32) {r1 : Int64} {S1 : MS} (h : fr_energy_12 S a1 a2 = some (r1, S1)) : mCl l yX12_energy (Cond.code yX12_energy cX12_energy 9 (some .long) :: wsM) 3 46 D cI cJ cZ ad S [.ref (ad 12), .int a1, .int a2] (fun r S9 => r = r1 ∧ S9 = S1) := by
  intro sz
  refine pro_in (cc := cX12_energy) (maxL := 9) (ret := (some .long)) (by exact pn_RX12) rfl (by exact Nat.le_of_ble_eq_true rfl) (fun p e s m below meth c ls hx hb hr hts hown hlocks hml hv hl => ?_)
  obtain ⟨hsz, hP, hK, hD0, hR⟩ := hv
  subst hsz
  have hD := hD0.self (sz := s.heap.size)
  generalize hAe : va_A (MW cI cJ cZ ad S) s.heap.size = A at hD ⊢
  have hA : ∀ q : Nat, s.heap.size ≤ q → A q := fun q h => by rw [← hAe]; exact Or.inr h
  have G : mG D cI cJ cZ ad A s.heap s.heap [] S := ⟨hP, hD, va_S.rf⟩
  have E : mE p c cX12_energy s m ([.ref (ad 0), .ref (ad 12), .int a1, .int a2] : List Value).toArray (Cond.code yX12_energy cX12_energy 9 (some .long) :: wsM) D cI cJ cZ := ⟨hx, hb, hts, hown, hK, fun w h => .tail _ (iM_x h)⟩
  have hl : lv_has ls 9 [(0, .ref (ad 0)), (1, .ref (ad 12)), (2, .int a1), (3, .int a2)] := hl
  unfold fr_energy_12 at h
  refine lv_lconst (v := 0) hx hb dX12_energy_0 (by decide) ?_
  refine lv_lstore (lv' := [(4, .long (0 : Int64)), (0, .ref (ad 0)), (1, .ref (ad 12)), (2, .int a1), (3, .int a2)]) hx hb dX12_energy_1 hl (by decide) rfl (fun ls hl => ?_)
  refine lv_iload_n hx hb dX12_energy_3 rfl (lv_at hl 3 rfl) ?_
  refine lv_istore (lv' := [(6, .int a1), (4, .long (0 : Int64)), (0, .ref (ad 0)), (1, .ref (ad 12)), (2, .int a1), (3, .int a2)]) hx hb dX12_energy_4 hl (by decide) rfl (fun ls hl => ?_)
  have hl := lv_sub hl [2, 3, 5, 1, 0] rfl
  exact tr_energy_12_b6 E hA hR hml (fun H locs ls G => W.lret (v := r1) hx hb hr (fun t ht hW => ⟨⟨r1, S1, rfl, ⟨rfl, rfl⟩, ⟨by rw [ht]; exact G.1, va_K.moved hW.alike hK, G.2.1⟩⟩, G.2.2.F ht⟩) G.2.2.2.2 dX12_energy_40) _ _ _ _ _ _ _ _ h G hl
def fr_powerHere_12_b24  (S : MS) (s0 : Int64) : Option (Int64 × MS) := some (s0, S)
set_option maxHeartbeats 4000000 in
set_option maxRecDepth 100000 in
theorem tr_powerHere_12_b24 {p : Program} {l : Launch} {e : Env} {s : State} {m : MethodId} {args : Array Value} {below : List Frame} {meth : Method} {c : Code} {Q : State → Prop} {D : va_G} {A : Nat → Prop} {H0 : Heap} {cI cJ cZ : ClassId} {ad : Nat → Nat} {r1 : Int64} {S1 : MS} (E : mE p c cX12_powerHere s m args (Cond.code yX12_powerHere cX12_powerHere 3 (some .long) :: wsM) D cI cJ cZ) (hA : ∀ q : Nat, H0.size ≤ q → A q) (hR : sR s) (hml : c.maxLocals = 3) (kr24 : ∀ (H : Heap) (locs : List Loc) (ls : Array Slot), mG D cI cJ cZ ad A H0 H locs S1 → W p l e { frames := 4, cells := 0, slots := 0, locals := 74 } s m args below meth c H locs 0 0 Q (F0 m 24 ls [.long r1])) : ∀ (S : MS) (H : Heap) (locs : List Loc) (ls : Array Slot) (s0 : Int64), fr_powerHere_12_b24 S s0 = some (r1, S1) → mG D cI cJ cZ ad A H0 H locs S → lv_has ls 3 [] → W p l e { frames := 4, cells := 0, slots := 0, locals := 74 } s m args below meth c H locs 0 0 Q (F0 m 24 ls [.long s0]) := by
  have hx := E.1
  have hb := E.2.1
  have hts := E.2.2.1
  have hown := E.2.2.2.1
  have hK := E.2.2.2.2.1
  intro S H locs ls s0 h G hl
  unfold fr_powerHere_12_b24 at h
  rw [(osome2 h).2] at G
  refine lv_tol (osome2 h).1 ?_
  exact kr24 _ _ _ G
def fr_powerHere_12 (S : MS)  : Option (Int64 × MS) := obind2 (fr_windowOf_12 S) fun r5 S2 => if r5 = 0 then (fr_powerHere_12_b24 S2 (0 : Int64)) else (obind2 (fr_energy_12 S2 0 r5) fun r10 S7 => elet (r5.toInt64) fun v11 => oif (¬ v11 = 0) <| elet (r10 / v11) fun v13 => fr_powerHere_12_b24 S7 v13)
set_option maxHeartbeats 4000000 in
set_option maxRecDepth 100000 in
theorem tr_powerHere_12 (l : Launch) (D : va_G) (cI cJ cZ : ClassId) (ad : Nat → Nat) (S : MS)  {r1 : Int64} {S1 : MS} (h : fr_powerHere_12 S = some (r1, S1)) : mCl l yX12_powerHere (Cond.code yX12_powerHere cX12_powerHere 3 (some .long) :: wsM) 4 74 D cI cJ cZ ad S [.ref (ad 12)] (fun r S9 => r = r1 ∧ S9 = S1) := by
  intro sz
  refine pro_in (cc := cX12_powerHere) (maxL := 3) (ret := (some .long)) (by exact pn_RX12) rfl (by exact Nat.le_of_ble_eq_true rfl) (fun p e s m below meth c ls hx hb hr hts hown hlocks hml hv hl => ?_)
  obtain ⟨hsz, hP, hK, hD0, hR⟩ := hv
  subst hsz
  have hD := hD0.self (sz := s.heap.size)
  generalize hAe : va_A (MW cI cJ cZ ad S) s.heap.size = A at hD ⊢
  have hA : ∀ q : Nat, s.heap.size ≤ q → A q := fun q h => by rw [← hAe]; exact Or.inr h
  have G : mG D cI cJ cZ ad A s.heap s.heap [] S := ⟨hP, hD, va_S.rf⟩
  have E : mE p c cX12_powerHere s m ([.ref (ad 0), .ref (ad 12)] : List Value).toArray (Cond.code yX12_powerHere cX12_powerHere 3 (some .long) :: wsM) D cI cJ cZ := ⟨hx, hb, hts, hown, hK, fun w h => .tail _ (iM_x h)⟩
  have hl : lv_has ls 3 [(0, .ref (ad 0)), (1, .ref (ad 12))] := hl
  unfold fr_powerHere_12 at h
  refine lv_aload_n hx hb dX12_powerHere_0 rfl (lv_at hl 0 rfl) ?_
  refine lv_aload_n hx hb dX12_powerHere_1 rfl (lv_at hl 1 rfl) ?_
  obtain ⟨r5, S2, eS2, h⟩ := obind2_some h
  refine m_calli (As := [.ref (ad 12)]) (rest := []) E G hA hR hml (tr_windowOf_12 l D cI cJ cZ ad S eS2) (cwV 1 hts (gmV qM_283 qM_284 qM_285 qM_35 qM_273) rfl rfl rfl (by decide +kernel) ⟨Nat.le_of_ble_eq_true rfl, Nat.le_of_ble_eq_true rfl⟩) rfl hl.1 rfl (lv_room (Nat.le_of_ble_eq_true rfl)) dX12_powerHere_2 ⟨Nat.zero_le _, Nat.zero_le _⟩ (fun q3 S4 H locs hq G => ?_)
  obtain ⟨hq1, hq2⟩ := hq
  rw [hq2] at G
  refine lv_to hq1 ?_
  clear hq1 hq2 eS2
  refine lv_istore_n (lv' := [(2, .int r5), (0, .ref (ad 0)), (1, .ref (ad 12))]) hx hb dX12_powerHere_5 rfl hl (by decide) rfl (fun ls hl => ?_)
  refine lv_iload_n hx hb dX12_powerHere_6 rfl (lv_at hl 0 rfl) ?_
  refine lv_if_ne (tgt := 14) hx hb dX12_powerHere_7 (by decide) (fun c6 => ?_) (fun c6 => ?_)
  · have h := oif_neg c6 h
    refine lv_aload_n hx hb dX12_powerHere_14 rfl (lv_at hl 1 rfl) ?_
    refine lv_aload_n hx hb dX12_powerHere_15 rfl (lv_at hl 2 rfl) ?_
    refine lv_iconst (v := 0) hx hb dX12_powerHere_16 (by decide) ?_
    refine lv_iload_n hx hb dX12_powerHere_17 rfl (lv_at hl 0 rfl) ?_
    obtain ⟨r10, S7, eS7, h⟩ := obind2_some h
    refine m_calll (As := [.ref (ad 12), .int 0, .int r5]) (rest := []) E G hA hR hml (tr_energy_12 l D cI cJ cZ ad S2 0 r5 eS7) (cwV 3 hts (gmV qM_286 qM_287 qM_288 qM_35 qM_278) rfl rfl rfl (by decide +kernel) ⟨Nat.le_of_ble_eq_true rfl, Nat.le_of_ble_eq_true rfl⟩) rfl hl.1 rfl (lv_room (Nat.le_of_ble_eq_true rfl)) dX12_powerHere_18 ⟨Nat.zero_le _, Nat.zero_le _⟩ (fun q8 S9 H locs hq G => ?_)
    obtain ⟨hq1, hq2⟩ := hq
    rw [hq2] at G
    refine lv_tol hq1 ?_
    clear hq1 hq2 eS7
    refine lv_iload_n hx hb dX12_powerHere_21 rfl (lv_at hl 0 rfl) ?_
    refine lv_i2l (v := r5.toInt64) hx hb dX12_powerHere_22 rfl ?_
    refine lv_topl (fun v11 ev11 => ?_)
    have h := elet_at ev11 h
    clear ev11
    obtain ⟨g12, h⟩ := oif_some h
    refine lv_ldiv hx hb dX12_powerHere_23 g12 ?_
    refine lv_topl (fun v13 ev13 => ?_)
    have h := elet_at ev13 h
    clear ev13
    have hl := lv_sub hl [] rfl
    exact tr_powerHere_12_b24 E hA hR hml (fun H locs ls G => W.lret (v := r1) hx hb hr (fun t ht hW => ⟨⟨r1, S1, rfl, ⟨rfl, rfl⟩, ⟨by rw [ht]; exact G.1, va_K.moved hW.alike hK, G.2.1⟩⟩, G.2.2.F ht⟩) G.2.2.2.2 dX12_powerHere_24) _ _ _ _ _ h G hl
  · have h := oif_pos c6 h
    refine lv_lconst (v := 0) hx hb dX12_powerHere_10 (by decide) ?_
    refine lv_goto (tgt := 24) hx hb dX12_powerHere_11 (by decide) ?_
    have hl := lv_sub hl [] rfl
    exact tr_powerHere_12_b24 E hA hR hml (fun H locs ls G => W.lret (v := r1) hx hb hr (fun t ht hW => ⟨⟨r1, S1, rfl, ⟨rfl, rfl⟩, ⟨by rw [ht]; exact G.1, va_K.moved hW.alike hK, G.2.1⟩⟩, G.2.2.F ht⟩) G.2.2.2.2 dX12_powerHere_24) _ _ _ _ _ h G hl
def fr_powerOf_12 (S : MS) (a1 : Int32) : Option (Int64 × MS) := obind (fr_laysCell S a1) fun S2 => obind2 (fr_powerHere_12 S2) fun r8 S5 => some (r8, S5)
set_option maxHeartbeats 4000000 in
set_option maxRecDepth 100000 in
theorem tr_powerOf_12 (l : Launch) (D : va_G) (cI cJ cZ : ClassId) (ad : Nat → Nat) (S : MS) (a1 : Int32) {r1 : Int64} {S1 : MS} (h : fr_powerOf_12 S a1 = some (r1, S1)) : mCl l yX12_powerOf (Cond.code yX12_powerOf cX12_powerOf 3 (some .long) :: wsM) 5 96 D cI cJ cZ ad S [.ref (ad 12), .int a1] (fun r S9 => r = r1 ∧ S9 = S1) := by
  intro sz
  refine pro_in (cc := cX12_powerOf) (maxL := 3) (ret := (some .long)) (by exact pn_RX12) rfl (by exact Nat.le_of_ble_eq_true rfl) (fun p e s m below meth c ls hx hb hr hts hown hlocks hml hv hl => ?_)
  obtain ⟨hsz, hP, hK, hD0, hR⟩ := hv
  subst hsz
  have hD := hD0.self (sz := s.heap.size)
  generalize hAe : va_A (MW cI cJ cZ ad S) s.heap.size = A at hD ⊢
  have hA : ∀ q : Nat, s.heap.size ≤ q → A q := fun q h => by rw [← hAe]; exact Or.inr h
  have G : mG D cI cJ cZ ad A s.heap s.heap [] S := ⟨hP, hD, va_S.rf⟩
  have E : mE p c cX12_powerOf s m ([.ref (ad 0), .ref (ad 12), .int a1] : List Value).toArray (Cond.code yX12_powerOf cX12_powerOf 3 (some .long) :: wsM) D cI cJ cZ := ⟨hx, hb, hts, hown, hK, fun w h => .tail _ (iM_x h)⟩
  have hl : lv_has ls 3 [(0, .ref (ad 0)), (1, .ref (ad 12)), (2, .int a1)] := hl
  unfold fr_powerOf_12 at h
  refine lv_aload_n hx hb dX12_powerOf_0 rfl (lv_at hl 0 rfl) ?_
  refine lv_iload_n hx hb dX12_powerOf_1 rfl (lv_at hl 2 rfl) ?_
  obtain ⟨S2, eS2, h⟩ := obind_some h
  refine m_callv (As := [.int a1]) (rest := []) E G hA hR hml (tr_laysCell l D cI cJ cZ ad S a1 eS2) (cwV 1 hts (gmV qM_290 qM_291 qM_292 qM_35 qM_270) rfl rfl rfl (by decide +kernel) ⟨Nat.le_of_ble_eq_true rfl, Nat.le_of_ble_eq_true rfl⟩) rfl hl.1 rfl (lv_room (Nat.le_of_ble_eq_true rfl)) dX12_powerOf_2 ⟨Nat.zero_le _, Nat.zero_le _⟩ (fun S4 H locs hq G => ?_)
  rw [hq] at G
  clear hq eS2
  refine lv_aload_n hx hb dX12_powerOf_5 rfl (lv_at hl 0 rfl) ?_
  refine lv_aload_n hx hb dX12_powerOf_6 rfl (lv_at hl 1 rfl) ?_
  obtain ⟨r8, S5, eS5, h⟩ := obind2_some h
  refine m_calll (As := [.ref (ad 12)]) (rest := []) E G hA hR hml (tr_powerHere_12 l D cI cJ cZ ad S2 eS5) (cwV 1 hts (gmV qM_293 qM_294 qM_295 qM_35 qM_282) rfl rfl rfl (by decide +kernel) ⟨Nat.le_of_ble_eq_true rfl, Nat.le_of_ble_eq_true rfl⟩) rfl hl.1 rfl (lv_room (Nat.le_of_ble_eq_true rfl)) dX12_powerOf_7 ⟨Nat.zero_le _, Nat.zero_le _⟩ (fun q6 S7 H locs hq G => ?_)
  obtain ⟨hq1, hq2⟩ := hq
  rw [hq2] at G
  refine lv_tol hq1 ?_
  clear hq1 hq2 eS5
  exact W.lret (v := r8) hx hb hr (fun t ht hW => ⟨⟨r8, S5, rfl, osome2 h, ⟨by rw [ht]; exact G.1, va_K.moved hW.alike hK, G.2.1⟩⟩, G.2.2.F ht⟩) G.2.2.2.2 dX12_powerOf_10
def fr_power_b25  (S : MS) (s0 : Int64) : Option (Int64 × MS) := some (s0, S)
set_option maxHeartbeats 4000000 in
set_option maxRecDepth 100000 in
theorem tr_power_b25 {p : Program} {l : Launch} {e : Env} {s : State} {m : MethodId} {args : Array Value} {below : List Frame} {meth : Method} {c : Code} {Q : State → Prop} {D : va_G} {A : Nat → Prop} {H0 : Heap} {cI cJ cZ : ClassId} {ad : Nat → Nat} {r1 : Int64} {S1 : MS} (E : mE p c cX12_power s m args (Cond.code yX12_power cX12_power 2 (some .long) :: wsM) D cI cJ cZ) (hA : ∀ q : Nat, H0.size ≤ q → A q) (hR : sR s) (hml : c.maxLocals = 2) (kr25 : ∀ (H : Heap) (locs : List Loc) (ls : Array Slot), mG D cI cJ cZ ad A H0 H locs S1 → W p l e { frames := 6, cells := 0, slots := 0, locals := 118 } s m args below meth c H locs 0 0 Q (F0 m 25 ls [.long r1])) : ∀ (S : MS) (H : Heap) (locs : List Loc) (ls : Array Slot) (s0 : Int64), fr_power_b25 S s0 = some (r1, S1) → mG D cI cJ cZ ad A H0 H locs S → lv_has ls 2 [] → W p l e { frames := 6, cells := 0, slots := 0, locals := 118 } s m args below meth c H locs 0 0 Q (F0 m 25 ls [.long s0]) := by
  have hx := E.1
  have hb := E.2.1
  have hts := E.2.2.1
  have hown := E.2.2.2.1
  have hK := E.2.2.2.2.1
  intro S H locs ls s0 h G hl
  unfold fr_power_b25 at h
  rw [(osome2 h).2] at G
  refine lv_tol (osome2 h).1 ?_
  exact kr25 _ _ _ G
def fr_power (S : MS) (a0 : Int32) : Option (Int64 × MS) := obind2 (fr_isCell S a0) fun r5 S2 => obind2 (fr_mayAsk S2 r5) fun r9 S6 => if r9 = 0 then (fr_power_b25 S6 (0 : Int64)) else (obind2 (fr_powerOf_12 S6 a0) fun r14 S11 => fr_power_b25 S11 r14)
set_option maxHeartbeats 4000000 in
set_option maxRecDepth 100000 in
theorem tr_power (l : Launch) (D : va_G) (cI cJ cZ : ClassId) (ad : Nat → Nat) (S : MS) (a0 : Int32) {r1 : Int64} {S1 : MS} (h : fr_power S a0 = some (r1, S1)) : mCl l yX12_power (Cond.code yX12_power cX12_power 2 (some .long) :: wsM) 6 118 D cI cJ cZ ad S [.int a0] (fun r S9 => r = r1 ∧ S9 = S1) := by
  intro sz
  refine pro_in (cc := cX12_power) (maxL := 2) (ret := (some .long)) (by exact pn_RX12) rfl (by exact Nat.le_of_ble_eq_true rfl) (fun p e s m below meth c ls hx hb hr hts hown hlocks hml hv hl => ?_)
  obtain ⟨hsz, hP, hK, hD0, hR⟩ := hv
  subst hsz
  have hD := hD0.self (sz := s.heap.size)
  generalize hAe : va_A (MW cI cJ cZ ad S) s.heap.size = A at hD ⊢
  have hA : ∀ q : Nat, s.heap.size ≤ q → A q := fun q h => by rw [← hAe]; exact Or.inr h
  have G : mG D cI cJ cZ ad A s.heap s.heap [] S := ⟨hP, hD, va_S.rf⟩
  have E : mE p c cX12_power s m ([.ref (ad 0), .int a0] : List Value).toArray (Cond.code yX12_power cX12_power 2 (some .long) :: wsM) D cI cJ cZ := ⟨hx, hb, hts, hown, hK, fun w h => .tail _ (iM_x h)⟩
  have hl : lv_has ls 2 [(0, .ref (ad 0)), (1, .int a0)] := hl
  unfold fr_power at h
  refine lv_aload_n hx hb dX12_power_0 rfl (lv_at hl 0 rfl) ?_
  refine lv_aload_n hx hb dX12_power_1 rfl (lv_at hl 0 rfl) ?_
  refine lv_iload_n hx hb dX12_power_2 rfl (lv_at hl 1 rfl) ?_
  obtain ⟨r5, S2, eS2, h⟩ := obind2_some h
  refine m_calli (As := [.int a0]) (rest := [.ref (ad 0)]) E G hA hR hml (tr_isCell l D cI cJ cZ ad S a0 eS2) (cwV 1 hts (gmV qM_326 qM_327 qM_328 qM_35 qM_307) rfl rfl rfl (by decide +kernel) ⟨Nat.le_of_ble_eq_true rfl, Nat.le_of_ble_eq_true rfl⟩) rfl hl.1 rfl (lv_room (Nat.le_of_ble_eq_true rfl)) dX12_power_3 ⟨Nat.zero_le _, Nat.zero_le _⟩ (fun q3 S4 H locs hq G => ?_)
  obtain ⟨hq1, hq2⟩ := hq
  rw [hq2] at G
  refine lv_to hq1 ?_
  clear hq1 hq2 eS2
  obtain ⟨r9, S6, eS6, h⟩ := obind2_some h
  refine m_calli (As := [.int r5]) (rest := []) E G hA hR hml (tr_mayAsk l D cI cJ cZ ad S2 r5 eS6) (cwV 1 hts (gmV qM_319 qM_320 qM_321 qM_35 qM_304) rfl rfl rfl (by decide +kernel) ⟨Nat.le_of_ble_eq_true rfl, Nat.le_of_ble_eq_true rfl⟩) rfl hl.1 rfl (lv_room (Nat.le_of_ble_eq_true rfl)) dX12_power_6 ⟨Nat.zero_le _, Nat.zero_le _⟩ (fun q7 S8 H locs hq G => ?_)
  obtain ⟨hq1, hq2⟩ := hq
  rw [hq2] at G
  refine lv_to hq1 ?_
  clear hq1 hq2 eS6
  refine lv_if_eq (tgt := 24) hx hb dX12_power_9 (by decide) (fun c10 => ?_) (fun c10 => ?_)
  · have h := oif_pos c10 h
    refine lv_lconst (v := 0) hx hb dX12_power_24 (by decide) ?_
    have hl := lv_sub hl [] rfl
    exact tr_power_b25 E hA hR hml (fun H locs ls G => W.lret (v := r1) hx hb hr (fun t ht hW => ⟨⟨r1, S1, rfl, ⟨rfl, rfl⟩, ⟨by rw [ht]; exact G.1, va_K.moved hW.alike hK, G.2.1⟩⟩, G.2.2.F ht⟩) G.2.2.2.2 dX12_power_25) _ _ _ _ _ h G hl
  · have h := oif_neg c10 h
    refine lv_aload_n hx hb dX12_power_12 rfl (lv_at hl 0 rfl) ?_
    refine lv_aload_n hx hb dX12_power_13 rfl (lv_at hl 0 rfl) ?_
    refine m_get E G 12 (v := .ref (ad 12)) (by decide) (.tail _ qM_9) rfl dX12_power_14 rfl ?_
    refine lv_iload_n hx hb dX12_power_17 rfl (lv_at hl 1 rfl) ?_
    obtain ⟨r14, S11, eS11, h⟩ := obind2_some h
    refine m_calll (As := [.ref (ad 12), .int a0]) (rest := []) E G hA hR hml (tr_powerOf_12 l D cI cJ cZ ad S6 a0 eS11) (cwV 2 hts (gmV qM_297 qM_298 qM_299 qM_35 qM_289) rfl rfl rfl (by decide +kernel) ⟨Nat.le_of_ble_eq_true rfl, Nat.le_of_ble_eq_true rfl⟩) rfl hl.1 rfl (lv_room (Nat.le_of_ble_eq_true rfl)) dX12_power_18 ⟨Nat.zero_le _, Nat.zero_le _⟩ (fun q12 S13 H locs hq G => ?_)
    obtain ⟨hq1, hq2⟩ := hq
    rw [hq2] at G
    refine lv_tol hq1 ?_
    clear hq1 hq2 eS11
    refine lv_goto (tgt := 25) hx hb dX12_power_21 (by decide) ?_
    have hl := lv_sub hl [] rfl
    exact tr_power_b25 E hA hR hml (fun H locs ls G => W.lret (v := r1) hx hb hr (fun t ht hW => ⟨⟨r1, S1, rfl, ⟨rfl, rfl⟩, ⟨by rw [ht]; exact G.1, va_K.moved hW.alike hK, G.2.1⟩⟩, G.2.2.F ht⟩) G.2.2.2.2 dX12_power_25) _ _ _ _ _ h G hl
def fr_powerAt (S : MS) (a0 : Int32) (a1 : Int32) : Option (Int64 × MS) := obind (fr_isPoint a0 a1) fun r2 => obind2 (fr_mayAsk S r2) fun r7 S4 => if r7 = 0 then (some ((0 : Int64), S4)) else (obind (fr_laysPoint S4 a0 a1) fun S9 => obind2 (fr_powerHere_12 S9) fun r15 S12 => some (r15, S12))
set_option maxHeartbeats 4000000 in
set_option maxRecDepth 100000 in
theorem tr_powerAt (l : Launch) (D : va_G) (cI cJ cZ : ClassId) (ad : Nat → Nat) (S : MS) (a0 : Int32) (a1 : Int32) {r1 : Int64} {S1 : MS} (h : fr_powerAt S a0 a1 = some (r1, S1)) : mCl l yX12_powerAt (Cond.code yX12_powerAt cX12_powerAt 3 (some .long) :: wsM) 5 96 D cI cJ cZ ad S [.int a0, .int a1] (fun r S9 => r = r1 ∧ S9 = S1) := by
  intro sz
  refine pro_in (cc := cX12_powerAt) (maxL := 3) (ret := (some .long)) (by exact pn_RX12) rfl (by exact Nat.le_of_ble_eq_true rfl) (fun p e s m below meth c ls hx hb hr hts hown hlocks hml hv hl => ?_)
  obtain ⟨hsz, hP, hK, hD0, hR⟩ := hv
  subst hsz
  have hD := hD0.self (sz := s.heap.size)
  generalize hAe : va_A (MW cI cJ cZ ad S) s.heap.size = A at hD ⊢
  have hA : ∀ q : Nat, s.heap.size ≤ q → A q := fun q h => by rw [← hAe]; exact Or.inr h
  have G : mG D cI cJ cZ ad A s.heap s.heap [] S := ⟨hP, hD, va_S.rf⟩
  have E : mE p c cX12_powerAt s m ([.ref (ad 0), .int a0, .int a1] : List Value).toArray (Cond.code yX12_powerAt cX12_powerAt 3 (some .long) :: wsM) D cI cJ cZ := ⟨hx, hb, hts, hown, hK, fun w h => .tail _ (iM_x h)⟩
  have hl : lv_has ls 3 [(0, .ref (ad 0)), (1, .int a0), (2, .int a1)] := hl
  unfold fr_powerAt at h
  refine lv_aload_n hx hb dX12_powerAt_0 rfl (lv_at hl 0 rfl) ?_
  refine lv_iload_n hx hb dX12_powerAt_1 rfl (lv_at hl 1 rfl) ?_
  refine lv_iload_n hx hb dX12_powerAt_2 rfl (lv_at hl 2 rfl) ?_
  obtain ⟨r2, er2, h⟩ := obind_some h
  refine m_stat (As := [.int a0, .int a1]) (rest := [.ref (ad 0)]) ⟨hx, hb, hml, hown, hts⟩ (tr_isPoint l a0 a1 er2) (cwS 2 hts (gmS qM_343 qM_344 qM_35 qM_341) rfl rfl rfl (by decide +kernel) ⟨Nat.le_of_ble_eq_true rfl, Nat.le_of_ble_eq_true rfl⟩) rfl hl.1 rfl (lv_room (Nat.le_of_ble_eq_true rfl)) dX12_powerAt_3 ⟨Nat.zero_le _, Nat.zero_le _⟩ (fun q3 hq => ?_)
  refine lv_to hq ?_
  clear hq er2
  obtain ⟨r7, S4, eS4, h⟩ := obind2_some h
  refine m_calli (As := [.int r2]) (rest := []) E G hA hR hml (tr_mayAsk l D cI cJ cZ ad S r2 eS4) (cwV 1 hts (gmV qM_319 qM_320 qM_321 qM_35 qM_304) rfl rfl rfl (by decide +kernel) ⟨Nat.le_of_ble_eq_true rfl, Nat.le_of_ble_eq_true rfl⟩) rfl hl.1 rfl (lv_room (Nat.le_of_ble_eq_true rfl)) dX12_powerAt_6 ⟨Nat.zero_le _, Nat.zero_le _⟩ (fun q5 S6 H locs hq G => ?_)
  obtain ⟨hq1, hq2⟩ := hq
  rw [hq2] at G
  refine lv_to hq1 ?_
  clear hq1 hq2 eS4
  refine lv_if_ne (tgt := 14) hx hb dX12_powerAt_9 (by decide) (fun c8 => ?_) (fun c8 => ?_)
  · have h := oif_neg c8 h
    refine lv_aload_n hx hb dX12_powerAt_14 rfl (lv_at hl 0 rfl) ?_
    refine lv_iload_n hx hb dX12_powerAt_15 rfl (lv_at hl 1 rfl) ?_
    refine lv_iload_n hx hb dX12_powerAt_16 rfl (lv_at hl 2 rfl) ?_
    obtain ⟨S9, eS9, h⟩ := obind_some h
    refine m_callv (As := [.int a0, .int a1]) (rest := []) E G hA hR hml (tr_laysPoint l D cI cJ cZ ad S4 a0 a1 eS9) (cwV 2 hts (gmV qM_356 qM_357 qM_358 qM_35 qM_271) rfl rfl rfl (by decide +kernel) ⟨Nat.le_of_ble_eq_true rfl, Nat.le_of_ble_eq_true rfl⟩) rfl hl.1 rfl (lv_room (Nat.le_of_ble_eq_true rfl)) dX12_powerAt_17 ⟨Nat.zero_le _, Nat.zero_le _⟩ (fun S11 H locs hq G => ?_)
    rw [hq] at G
    clear hq eS9
    refine lv_aload_n hx hb dX12_powerAt_20 rfl (lv_at hl 0 rfl) ?_
    refine lv_aload_n hx hb dX12_powerAt_21 rfl (lv_at hl 0 rfl) ?_
    refine m_get E G 12 (v := .ref (ad 12)) (by decide) (.tail _ qM_9) rfl dX12_powerAt_22 rfl ?_
    obtain ⟨r15, S12, eS12, h⟩ := obind2_some h
    refine m_calll (As := [.ref (ad 12)]) (rest := []) E G hA hR hml (tr_powerHere_12 l D cI cJ cZ ad S9 eS12) (cwV 1 hts (gmV qM_293 qM_294 qM_295 qM_35 qM_282) rfl rfl rfl (by decide +kernel) ⟨Nat.le_of_ble_eq_true rfl, Nat.le_of_ble_eq_true rfl⟩) rfl hl.1 rfl (lv_room (Nat.le_of_ble_eq_true rfl)) dX12_powerAt_25 ⟨Nat.zero_le _, Nat.zero_le _⟩ (fun q13 S14 H locs hq G => ?_)
    obtain ⟨hq1, hq2⟩ := hq
    rw [hq2] at G
    refine lv_tol hq1 ?_
    clear hq1 hq2 eS12
    exact W.lret (v := r15) hx hb hr (fun t ht hW => ⟨⟨r15, S12, rfl, osome2 h, ⟨by rw [ht]; exact G.1, va_K.moved hW.alike hK, G.2.1⟩⟩, G.2.2.F ht⟩) G.2.2.2.2 dX12_powerAt_28
  · have h := oif_pos c8 h
    refine lv_lconst (v := 0) hx hb dX12_powerAt_12 (by decide) ?_
    exact W.lret (v := (0 : Int64)) hx hb hr (fun t ht hW => ⟨⟨(0 : Int64), S4, rfl, osome2 h, ⟨by rw [ht]; exact G.1, va_K.moved hW.alike hK, G.2.1⟩⟩, G.2.2.F ht⟩) G.2.2.2.2 dX12_powerAt_13
def fr_laysPowers_12_b2  : Nat → MS → Int32 → Option (MS)
  | 0, _, _ => none
  | n + 1, S, l2 => obind2 (fr_cellCount S) fun r5 S2 => if r5 ≤ l2 then (some S2) else (obind2 (fr_powerOf_12 S2 l2) fun r10 S7 => oif (inb l2 144 = true) <| elet (mg S7 25 (vp_updL (S7.2.2 25) l2.toNatClampNeg r10)) fun S12 => elet (l2 + Int32.ofInt (1)) fun v13 => fr_laysPowers_12_b2 n S12 v13)
set_option maxHeartbeats 4000000 in
set_option maxRecDepth 100000 in
theorem tr_laysPowers_12_b2 {p : Program} {l : Launch} {e : Env} {s : State} {m : MethodId} {args : Array Value} {below : List Frame} {meth : Method} {c : Code} {Q : State → Prop} {D : va_G} {A : Nat → Prop} {H0 : Heap} {cI cJ cZ : ClassId} {ad : Nat → Nat} {S1 : MS} (E : mE p c cX12_laysPowers s m args (Cond.code yX12_laysPowers cX12_laysPowers 3 none :: wsM) D cI cJ cZ) (hA : ∀ q : Nat, H0.size ≤ q → A q) (hR : sR s) (hml : c.maxLocals = 3) (kr28 : ∀ (H : Heap) (locs : List Loc) (ls : Array Slot), mG D cI cJ cZ ad A H0 H locs S1 → W p l e { frames := 6, cells := 0, slots := 0, locals := 118 } s m args below meth c H locs 0 0 Q (F0 m 28 ls [])) : ∀ n : Nat, ∀ (S : MS) (H : Heap) (locs : List Loc) (ls : Array Slot) (l2 : Int32), fr_laysPowers_12_b2 n S l2 = some S1 → mG D cI cJ cZ ad A H0 H locs S → lv_has ls 3 [(0, .ref (ad 0)), (1, .ref (ad 12)), (2, .int l2)] → W p l e { frames := 6, cells := 0, slots := 0, locals := 118 } s m args below meth c H locs 0 0 Q (F0 m 2 ls []) := by
  have hx := E.1
  have hb := E.2.1
  have hts := E.2.2.1
  have hown := E.2.2.2.1
  have hK := E.2.2.2.2.1
  intro n
  induction n with
  | zero =>
    intro S H locs ls l2 h
    have h : (none : Option (MS)) = some S1 := h
    cases h
  | succ n ih =>
    intro S H locs ls l2 h G hl
    unfold fr_laysPowers_12_b2 at h
    refine lv_iload_n hx hb dX12_laysPowers_2 rfl (lv_at hl 2 rfl) ?_
    refine lv_aload_n hx hb dX12_laysPowers_3 rfl (lv_at hl 0 rfl) ?_
    obtain ⟨r5, S2, eS2, h⟩ := obind2_some h
    refine m_calli (As := []) (rest := [.int l2]) E G hA hR hml (tr_cellCount l D cI cJ cZ ad S eS2) (cwV 0 hts (gmV qM_204 qM_205 qM_206 qM_35 qM_207) rfl rfl rfl (by decide +kernel) ⟨Nat.le_of_ble_eq_true rfl, Nat.le_of_ble_eq_true rfl⟩) rfl hl.1 rfl (lv_room (Nat.le_of_ble_eq_true rfl)) dX12_laysPowers_4 ⟨Nat.zero_le _, Nat.zero_le _⟩ (fun q3 S4 H locs hq G => ?_)
    obtain ⟨hq1, hq2⟩ := hq
    rw [hq2] at G
    refine lv_to hq1 ?_
    clear hq1 hq2 eS2
    refine lv_icmp_ge (tgt := 28) hx hb dX12_laysPowers_7 (by decide) (fun c6 => ?_) (fun c6 => ?_)
    · have h := oif_pos c6 h
      rw [osome1 h] at G
      exact kr28 _ _ _ G
    · have h := oif_neg c6 h
      refine lv_aload_n hx hb dX12_laysPowers_10 rfl (lv_at hl 0 rfl) ?_
      refine m_get E G 25 (v := .ref (ad 25)) (by decide) (.tail _ qM_21) rfl dX12_laysPowers_11 rfl ?_
      refine lv_iload_n hx hb dX12_laysPowers_14 rfl (lv_at hl 2 rfl) ?_
      refine lv_aload_n hx hb dX12_laysPowers_15 rfl (lv_at hl 0 rfl) ?_
      refine lv_aload_n hx hb dX12_laysPowers_16 rfl (lv_at hl 1 rfl) ?_
      refine lv_iload_n hx hb dX12_laysPowers_17 rfl (lv_at hl 2 rfl) ?_
      obtain ⟨r10, S7, eS7, h⟩ := obind2_some h
      refine m_calll (As := [.ref (ad 12), .int l2]) (rest := [.int l2, .ref (ad 25)]) E G hA hR hml (tr_powerOf_12 l D cI cJ cZ ad S2 l2 eS7) (cwV 2 hts (gmV qM_297 qM_298 qM_299 qM_35 qM_289) rfl rfl rfl (by decide +kernel) ⟨Nat.le_of_ble_eq_true rfl, Nat.le_of_ble_eq_true rfl⟩) rfl hl.1 rfl (lv_room (Nat.le_of_ble_eq_true rfl)) dX12_laysPowers_18 ⟨Nat.zero_le _, Nat.zero_le _⟩ (fun q8 S9 H locs hq G => ?_)
      obtain ⟨hq1, hq2⟩ := hq
      rw [hq2] at G
      refine lv_tol hq1 ?_
      clear hq1 hq2 eS7
      obtain ⟨g11, h⟩ := oif_some h
      refine m_last E G 25 13 (k := l2.toNatClampNeg) (v := r10) rfl (fun _ => rfl) (inb_k g11).1 (inb_k g11).2 (by decide) dX12_laysPowers_21 (fun H locs G => ?_)
      obtain ⟨S12, eS12, h⟩ := elet_some h
      rw [← eS12] at G
      clear eS12
      obtain ⟨v13, ev13, h⟩ := elet_some h
      refine lv_iinc (v := v13) (lv' := [(2, .int v13), (0, .ref (ad 0)), (1, .ref (ad 12))]) hx hb dX12_laysPowers_22 hl (k := 2) rfl ev13.symm (by decide) rfl (fun ls hl => ?_)
      refine lv_goto (tgt := 2) hx hb dX12_laysPowers_25 (by decide) ?_
      have hl := lv_sub hl [1, 2, 0] rfl
      exact ih _ _ _ _ _ h G hl
def fr_laysPowers_12 (S : MS)  : Option (MS) := fr_laysPowers_12_b2 16384 S 0
set_option maxHeartbeats 4000000 in
set_option maxRecDepth 100000 in
theorem tr_laysPowers_12 (l : Launch) (D : va_G) (cI cJ cZ : ClassId) (ad : Nat → Nat) (S : MS)  {S1 : MS} (h : fr_laysPowers_12 S = some S1) : mCv l yX12_laysPowers (Cond.code yX12_laysPowers cX12_laysPowers 3 none :: wsM) 6 118 D cI cJ cZ ad S [.ref (ad 12)] (fun S9 => S9 = S1) := by
  intro sz
  refine pro_in (cc := cX12_laysPowers) (maxL := 3) (ret := none) (by exact pn_RX12) rfl (by exact Nat.le_of_ble_eq_true rfl) (fun p e s m below meth c ls hx hb hr hts hown hlocks hml hv hl => ?_)
  obtain ⟨hsz, hP, hK, hD0, hR⟩ := hv
  subst hsz
  have hD := hD0.self (sz := s.heap.size)
  generalize hAe : va_A (MW cI cJ cZ ad S) s.heap.size = A at hD ⊢
  have hA : ∀ q : Nat, s.heap.size ≤ q → A q := fun q h => by rw [← hAe]; exact Or.inr h
  have G : mG D cI cJ cZ ad A s.heap s.heap [] S := ⟨hP, hD, va_S.rf⟩
  have E : mE p c cX12_laysPowers s m ([.ref (ad 0), .ref (ad 12)] : List Value).toArray (Cond.code yX12_laysPowers cX12_laysPowers 3 none :: wsM) D cI cJ cZ := ⟨hx, hb, hts, hown, hK, fun w h => .tail _ (iM_x h)⟩
  have hl : lv_has ls 3 [(0, .ref (ad 0)), (1, .ref (ad 12))] := hl
  unfold fr_laysPowers_12 at h
  refine lv_iconst (v := 0) hx hb dX12_laysPowers_0 (by decide) ?_
  refine lv_istore_n (lv' := [(2, .int 0), (0, .ref (ad 0)), (1, .ref (ad 12))]) hx hb dX12_laysPowers_1 rfl hl (by decide) rfl (fun ls hl => ?_)
  have hl := lv_sub hl [1, 2, 0] rfl
  exact tr_laysPowers_12_b2 E hA hR hml (fun H locs ls G => W.vret hx hb hr (fun t ht hW => ⟨⟨S1, rfl, rfl, ⟨by rw [ht]; exact G.1, va_K.moved hW.alike hK, G.2.1⟩⟩, G.2.2.F ht⟩) G.2.2.2.2 dX12_laysPowers_28) _ _ _ _ _ _ h G hl
def fr_bestIn_12_b38 (k9 : MS → Int32 → Int32 → Option (Int32 × MS)) (S : MS) (s0 : Int32) (l3 : Int32) : Option (Int32 × MS) := elet (l3 + Int32.ofInt (1)) fun v2 => k9 S s0 v2
set_option maxHeartbeats 4000000 in
set_option maxRecDepth 100000 in
theorem tr_bestIn_12_b38 {p : Program} {l : Launch} {e : Env} {s : State} {m : MethodId} {args : Array Value} {below : List Frame} {meth : Method} {c : Code} {Q : State → Prop} {D : va_G} {A : Nat → Prop} {H0 : Heap} {cI cJ cZ : ClassId} {ad : Nat → Nat} {r1 : Int32} {S1 : MS} (E : mE p c cX12_bestIn s m args (Cond.code yX12_bestIn cX12_bestIn 4 (some .int) :: wsM) D cI cJ cZ) (hA : ∀ q : Nat, H0.size ≤ q → A q) (hR : sR s) (hml : c.maxLocals = 4) (kr46 : ∀ (H : Heap) (locs : List Loc) (ls : Array Slot), mG D cI cJ cZ ad A H0 H locs S1 → W p l e { frames := 7, cells := 0, slots := 0, locals := 140 } s m args below meth c H locs 0 0 Q (F0 m 46 ls [.int r1])) {k9 : MS → Int32 → Int32 → Option (Int32 × MS)} (hk9 : ∀ (S : MS) (H : Heap) (locs : List Loc) (ls : Array Slot) (l2 : Int32) (l3 : Int32), k9 S l2 l3 = some (r1, S1) → mG D cI cJ cZ ad A H0 H locs S → lv_has ls 4 [(0, .ref (ad 0)), (2, .int l2), (3, .int l3)] → W p l e { frames := 7, cells := 0, slots := 0, locals := 140 } s m args below meth c H locs 0 0 Q (F0 m 9 ls [])) : ∀ (S : MS) (H : Heap) (locs : List Loc) (ls : Array Slot) (s0 : Int32) (l3 : Int32), fr_bestIn_12_b38 k9 S s0 l3 = some (r1, S1) → mG D cI cJ cZ ad A H0 H locs S → lv_has ls 4 [(0, .ref (ad 0)), (3, .int l3)] → W p l e { frames := 7, cells := 0, slots := 0, locals := 140 } s m args below meth c H locs 0 0 Q (F0 m 38 ls [.int s0]) := by
  have hx := E.1
  have hb := E.2.1
  have hts := E.2.2.1
  have hown := E.2.2.2.1
  have hK := E.2.2.2.2.1
  intro S H locs ls s0 l3 h G hl
  unfold fr_bestIn_12_b38 at h
  refine lv_istore_n (lv' := [(2, .int s0), (0, .ref (ad 0)), (3, .int l3)]) hx hb dX12_bestIn_38 rfl hl (by decide) rfl (fun ls hl => ?_)
  obtain ⟨v2, ev2, h⟩ := elet_some h
  refine lv_iinc (v := v2) (lv' := [(3, .int v2), (2, .int s0), (0, .ref (ad 0))]) hx hb dX12_bestIn_39 hl (k := 2) rfl ev2.symm (by decide) rfl (fun ls hl => ?_)
  refine lv_goto (tgt := 9) hx hb dX12_bestIn_42 (by decide) ?_
  have hl := lv_sub hl [2, 1, 0] rfl
  exact hk9 _ _ _ _ _ _ h G hl
def fr_bestIn_12_b9  : Nat → MS → Int32 → Int32 → Option (Int32 × MS)
  | 0, _, _, _ => none
  | n + 1, S, l2, l3 => obind2 (fr_cellCount S) fun r5 S2 => if r5 ≤ l3 then (some (l2, S2)) else (oif (inb l3 144 = true) <| elet (S2.2.2 25 l3.toNatClampNeg) fun v8 => oif (inb l2 144 = true) <| elet (S2.2.2 25 l2.toNatClampNeg) fun v10 => elet (lg_cmp v8 v10) fun v11 => if v11 ≤ 0 then (fr_bestIn_12_b38 (fr_bestIn_12_b9 n) S2 l2 l3) else (fr_bestIn_12_b38 (fr_bestIn_12_b9 n) S2 l3 l3))
set_option maxHeartbeats 4000000 in
set_option maxRecDepth 100000 in
theorem tr_bestIn_12_b9 {p : Program} {l : Launch} {e : Env} {s : State} {m : MethodId} {args : Array Value} {below : List Frame} {meth : Method} {c : Code} {Q : State → Prop} {D : va_G} {A : Nat → Prop} {H0 : Heap} {cI cJ cZ : ClassId} {ad : Nat → Nat} {r1 : Int32} {S1 : MS} (E : mE p c cX12_bestIn s m args (Cond.code yX12_bestIn cX12_bestIn 4 (some .int) :: wsM) D cI cJ cZ) (hA : ∀ q : Nat, H0.size ≤ q → A q) (hR : sR s) (hml : c.maxLocals = 4) (kr46 : ∀ (H : Heap) (locs : List Loc) (ls : Array Slot), mG D cI cJ cZ ad A H0 H locs S1 → W p l e { frames := 7, cells := 0, slots := 0, locals := 140 } s m args below meth c H locs 0 0 Q (F0 m 46 ls [.int r1])) : ∀ n : Nat, ∀ (S : MS) (H : Heap) (locs : List Loc) (ls : Array Slot) (l2 : Int32) (l3 : Int32), fr_bestIn_12_b9 n S l2 l3 = some (r1, S1) → mG D cI cJ cZ ad A H0 H locs S → lv_has ls 4 [(0, .ref (ad 0)), (2, .int l2), (3, .int l3)] → W p l e { frames := 7, cells := 0, slots := 0, locals := 140 } s m args below meth c H locs 0 0 Q (F0 m 9 ls []) := by
  have hx := E.1
  have hb := E.2.1
  have hts := E.2.2.1
  have hown := E.2.2.2.1
  have hK := E.2.2.2.2.1
  intro n
  induction n with
  | zero =>
    intro S H locs ls l2 l3 h
    have h : (none : Option (Int32 × MS)) = some (r1, S1) := h
    cases h
  | succ n ih =>
    intro S H locs ls l2 l3 h G hl
    unfold fr_bestIn_12_b9 at h
    refine lv_iload_n hx hb dX12_bestIn_9 rfl (lv_at hl 2 rfl) ?_
    refine lv_aload_n hx hb dX12_bestIn_10 rfl (lv_at hl 0 rfl) ?_
    obtain ⟨r5, S2, eS2, h⟩ := obind2_some h
    refine m_calli (As := []) (rest := [.int l3]) E G hA hR hml (tr_cellCount l D cI cJ cZ ad S eS2) (cwV 0 hts (gmV qM_204 qM_205 qM_206 qM_35 qM_207) rfl rfl rfl (by decide +kernel) ⟨Nat.le_of_ble_eq_true rfl, Nat.le_of_ble_eq_true rfl⟩) rfl hl.1 rfl (lv_room (Nat.le_of_ble_eq_true rfl)) dX12_bestIn_11 ⟨Nat.zero_le _, Nat.zero_le _⟩ (fun q3 S4 H locs hq G => ?_)
    obtain ⟨hq1, hq2⟩ := hq
    rw [hq2] at G
    refine lv_to hq1 ?_
    clear hq1 hq2 eS2
    refine lv_icmp_ge (tgt := 45) hx hb dX12_bestIn_14 (by decide) (fun c6 => ?_) (fun c6 => ?_)
    · have h := oif_pos c6 h
      refine lv_iload_n hx hb dX12_bestIn_45 rfl (lv_at hl 1 rfl) ?_
      rw [(osome2 h).2] at G
      refine lv_to (osome2 h).1 ?_
      exact kr46 _ _ _ G
    · have h := oif_neg c6 h
      refine lv_aload_n hx hb dX12_bestIn_17 rfl (lv_at hl 0 rfl) ?_
      refine m_get E G 25 (v := .ref (ad 25)) (by decide) (.tail _ qM_21) rfl dX12_bestIn_18 rfl ?_
      refine lv_iload_n hx hb dX12_bestIn_21 rfl (lv_at hl 2 rfl) ?_
      obtain ⟨g7, h⟩ := oif_some h
      refine m_lald E G 25 13 (n := 144) (k := l3.toNatClampNeg) rfl (inb_k g7).1 (inb_k g7).2 (by decide) dX12_bestIn_22 ?_
      refine lv_topl (fun v8 ev8 => ?_)
      have h := elet_at ev8 h
      clear ev8
      refine lv_aload_n hx hb dX12_bestIn_23 rfl (lv_at hl 0 rfl) ?_
      refine m_get E G 25 (v := .ref (ad 25)) (by decide) (.tail _ qM_21) rfl dX12_bestIn_24 rfl ?_
      refine lv_iload_n hx hb dX12_bestIn_27 rfl (lv_at hl 1 rfl) ?_
      obtain ⟨g9, h⟩ := oif_some h
      refine m_lald E G 25 13 (n := 144) (k := l2.toNatClampNeg) rfl (inb_k g9).1 (inb_k g9).2 (by decide) dX12_bestIn_28 ?_
      refine lv_topl (fun v10 ev10 => ?_)
      have h := elet_at ev10 h
      clear ev10
      refine W.lcmp hx hb dX12_bestIn_29 ?_
      refine lv_topi (fun v11 ev11 => ?_)
      have h := elet_at ev11 h
      clear ev11
      refine lv_if_le (tgt := 37) hx hb dX12_bestIn_30 (by decide) (fun c12 => ?_) (fun c12 => ?_)
      · have h := oif_pos c12 h
        refine lv_iload_n hx hb dX12_bestIn_37 rfl (lv_at hl 1 rfl) ?_
        have hl := lv_sub hl [0, 2] rfl
        exact tr_bestIn_12_b38 E hA hR hml kr46 ih _ _ _ _ _ _ h G hl
      · have h := oif_neg c12 h
        refine lv_iload_n hx hb dX12_bestIn_33 rfl (lv_at hl 2 rfl) ?_
        refine lv_goto (tgt := 38) hx hb dX12_bestIn_34 (by decide) ?_
        have hl := lv_sub hl [0, 2] rfl
        exact tr_bestIn_12_b38 E hA hR hml kr46 ih _ _ _ _ _ _ h G hl
def fr_bestIn_12 (S : MS)  : Option (Int32 × MS) := obind (fr_laysPowers_12 S) fun S2 => fr_bestIn_12_b9 16384 S2 0 1
set_option maxHeartbeats 4000000 in
set_option maxRecDepth 100000 in
theorem tr_bestIn_12 (l : Launch) (D : va_G) (cI cJ cZ : ClassId) (ad : Nat → Nat) (S : MS)  {r1 : Int32} {S1 : MS} (h : fr_bestIn_12 S = some (r1, S1)) : mCi l yX12_bestIn (Cond.code yX12_bestIn cX12_bestIn 4 (some .int) :: wsM) 7 140 D cI cJ cZ ad S [.ref (ad 12)] (fun r S9 => r = r1 ∧ S9 = S1) := by
  intro sz
  refine pro_in (cc := cX12_bestIn) (maxL := 4) (ret := (some .int)) (by exact pn_RX12) rfl (by exact Nat.le_of_ble_eq_true rfl) (fun p e s m below meth c ls hx hb hr hts hown hlocks hml hv hl => ?_)
  obtain ⟨hsz, hP, hK, hD0, hR⟩ := hv
  subst hsz
  have hD := hD0.self (sz := s.heap.size)
  generalize hAe : va_A (MW cI cJ cZ ad S) s.heap.size = A at hD ⊢
  have hA : ∀ q : Nat, s.heap.size ≤ q → A q := fun q h => by rw [← hAe]; exact Or.inr h
  have G : mG D cI cJ cZ ad A s.heap s.heap [] S := ⟨hP, hD, va_S.rf⟩
  have E : mE p c cX12_bestIn s m ([.ref (ad 0), .ref (ad 12)] : List Value).toArray (Cond.code yX12_bestIn cX12_bestIn 4 (some .int) :: wsM) D cI cJ cZ := ⟨hx, hb, hts, hown, hK, fun w h => .tail _ (iM_x h)⟩
  have hl : lv_has ls 4 [(0, .ref (ad 0)), (1, .ref (ad 12))] := hl
  unfold fr_bestIn_12 at h
  refine lv_aload_n hx hb dX12_bestIn_0 rfl (lv_at hl 0 rfl) ?_
  refine lv_aload_n hx hb dX12_bestIn_1 rfl (lv_at hl 1 rfl) ?_
  obtain ⟨S2, eS2, h⟩ := obind_some h
  refine m_callv (As := [.ref (ad 12)]) (rest := []) E G hA hR hml (tr_laysPowers_12 l D cI cJ cZ ad S eS2) (cwV 1 hts (gmV qM_301 qM_302 qM_303 qM_35 qM_296) rfl rfl rfl (by decide +kernel) ⟨Nat.le_of_ble_eq_true rfl, Nat.le_of_ble_eq_true rfl⟩) rfl hl.1 rfl (lv_room (Nat.le_of_ble_eq_true rfl)) dX12_bestIn_2 ⟨Nat.zero_le _, Nat.zero_le _⟩ (fun S4 H locs hq G => ?_)
  rw [hq] at G
  clear hq eS2
  refine lv_iconst (v := 0) hx hb dX12_bestIn_5 (by decide) ?_
  refine lv_istore_n (lv' := [(2, .int 0), (0, .ref (ad 0)), (1, .ref (ad 12))]) hx hb dX12_bestIn_6 rfl hl (by decide) rfl (fun ls hl => ?_)
  refine lv_iconst (v := 1) hx hb dX12_bestIn_7 (by decide) ?_
  refine lv_istore_n (lv' := [(3, .int 1), (2, .int 0), (0, .ref (ad 0)), (1, .ref (ad 12))]) hx hb dX12_bestIn_8 rfl hl (by decide) rfl (fun ls hl => ?_)
  have hl := lv_sub hl [2, 1, 0] rfl
  exact tr_bestIn_12_b9 E hA hR hml (fun H locs ls G => W.iret (v := r1) hx hb hr (fun t ht hW => ⟨⟨r1, S1, rfl, ⟨rfl, rfl⟩, ⟨by rw [ht]; exact G.1, va_K.moved hW.alike hK, G.2.1⟩⟩, G.2.2.F ht⟩) G.2.2.2.2 dX12_bestIn_46) _ _ _ _ _ _ _ h G hl
def fr_best_b20  (S : MS) (s0 : Int32) : Option (Int32 × MS) := some (s0, S)
set_option maxHeartbeats 4000000 in
set_option maxRecDepth 100000 in
theorem tr_best_b20 {p : Program} {l : Launch} {e : Env} {s : State} {m : MethodId} {args : Array Value} {below : List Frame} {meth : Method} {c : Code} {Q : State → Prop} {D : va_G} {A : Nat → Prop} {H0 : Heap} {cI cJ cZ : ClassId} {ad : Nat → Nat} {r1 : Int32} {S1 : MS} (E : mE p c cX12_best s m args (Cond.code yX12_best cX12_best 1 (some .int) :: wsM) D cI cJ cZ) (hA : ∀ q : Nat, H0.size ≤ q → A q) (hR : sR s) (hml : c.maxLocals = 1) (kr20 : ∀ (H : Heap) (locs : List Loc) (ls : Array Slot), mG D cI cJ cZ ad A H0 H locs S1 → W p l e { frames := 8, cells := 0, slots := 0, locals := 163 } s m args below meth c H locs 0 0 Q (F0 m 20 ls [.int r1])) : ∀ (S : MS) (H : Heap) (locs : List Loc) (ls : Array Slot) (s0 : Int32), fr_best_b20 S s0 = some (r1, S1) → mG D cI cJ cZ ad A H0 H locs S → lv_has ls 1 [] → W p l e { frames := 8, cells := 0, slots := 0, locals := 163 } s m args below meth c H locs 0 0 Q (F0 m 20 ls [.int s0]) := by
  have hx := E.1
  have hb := E.2.1
  have hts := E.2.2.1
  have hown := E.2.2.2.1
  have hK := E.2.2.2.2.1
  intro S H locs ls s0 h G hl
  unfold fr_best_b20 at h
  rw [(osome2 h).2] at G
  refine lv_to (osome2 h).1 ?_
  exact kr20 _ _ _ G
def fr_best (S : MS)  : Option (Int32 × MS) := obind2 (fr_mayAsk S 1) fun r5 S2 => if r5 = 0 then (fr_best_b20 S2 0) else (obind2 (fr_bestIn_12 S2) fun r10 S7 => fr_best_b20 S7 r10)
set_option maxHeartbeats 4000000 in
set_option maxRecDepth 100000 in
theorem tr_best (l : Launch) (D : va_G) (cI cJ cZ : ClassId) (ad : Nat → Nat) (S : MS)  {r1 : Int32} {S1 : MS} (h : fr_best S = some (r1, S1)) : mCi l yX12_best (Cond.code yX12_best cX12_best 1 (some .int) :: wsM) 8 163 D cI cJ cZ ad S [] (fun r S9 => r = r1 ∧ S9 = S1) := by
  intro sz
  refine pro_in (cc := cX12_best) (maxL := 1) (ret := (some .int)) (by exact pn_RX12) rfl (by exact Nat.le_of_ble_eq_true rfl) (fun p e s m below meth c ls hx hb hr hts hown hlocks hml hv hl => ?_)
  obtain ⟨hsz, hP, hK, hD0, hR⟩ := hv
  subst hsz
  have hD := hD0.self (sz := s.heap.size)
  generalize hAe : va_A (MW cI cJ cZ ad S) s.heap.size = A at hD ⊢
  have hA : ∀ q : Nat, s.heap.size ≤ q → A q := fun q h => by rw [← hAe]; exact Or.inr h
  have G : mG D cI cJ cZ ad A s.heap s.heap [] S := ⟨hP, hD, va_S.rf⟩
  have E : mE p c cX12_best s m ([.ref (ad 0)] : List Value).toArray (Cond.code yX12_best cX12_best 1 (some .int) :: wsM) D cI cJ cZ := ⟨hx, hb, hts, hown, hK, fun w h => .tail _ (iM_x h)⟩
  have hl : lv_has ls 1 [(0, .ref (ad 0))] := hl
  unfold fr_best at h
  refine lv_aload_n hx hb dX12_best_0 rfl (lv_at hl 0 rfl) ?_
  refine lv_iconst (v := 1) hx hb dX12_best_1 (by decide) ?_
  obtain ⟨r5, S2, eS2, h⟩ := obind2_some h
  refine m_calli (As := [.int 1]) (rest := []) E G hA hR hml (tr_mayAsk l D cI cJ cZ ad S 1 eS2) (cwV 1 hts (gmV qM_319 qM_320 qM_321 qM_35 qM_304) rfl rfl rfl (by decide +kernel) ⟨Nat.le_of_ble_eq_true rfl, Nat.le_of_ble_eq_true rfl⟩) rfl hl.1 rfl (lv_room (Nat.le_of_ble_eq_true rfl)) dX12_best_2 ⟨Nat.zero_le _, Nat.zero_le _⟩ (fun q3 S4 H locs hq G => ?_)
  obtain ⟨hq1, hq2⟩ := hq
  rw [hq2] at G
  refine lv_to hq1 ?_
  clear hq1 hq2 eS2
  refine lv_if_eq (tgt := 19) hx hb dX12_best_5 (by decide) (fun c6 => ?_) (fun c6 => ?_)
  · have h := oif_pos c6 h
    refine lv_iconst (v := 0) hx hb dX12_best_19 (by decide) ?_
    have hl := lv_sub hl [] rfl
    exact tr_best_b20 E hA hR hml (fun H locs ls G => W.iret (v := r1) hx hb hr (fun t ht hW => ⟨⟨r1, S1, rfl, ⟨rfl, rfl⟩, ⟨by rw [ht]; exact G.1, va_K.moved hW.alike hK, G.2.1⟩⟩, G.2.2.F ht⟩) G.2.2.2.2 dX12_best_20) _ _ _ _ _ h G hl
  · have h := oif_neg c6 h
    refine lv_aload_n hx hb dX12_best_8 rfl (lv_at hl 0 rfl) ?_
    refine lv_aload_n hx hb dX12_best_9 rfl (lv_at hl 0 rfl) ?_
    refine m_get E G 12 (v := .ref (ad 12)) (by decide) (.tail _ qM_9) rfl dX12_best_10 rfl ?_
    obtain ⟨r10, S7, eS7, h⟩ := obind2_some h
    refine m_calli (As := [.ref (ad 12)]) (rest := []) E G hA hR hml (tr_bestIn_12 l D cI cJ cZ ad S2 eS7) (cwV 1 hts (gmV qM_360 qM_361 qM_362 qM_35 qM_300) rfl rfl rfl (by decide +kernel) ⟨Nat.le_of_ble_eq_true rfl, Nat.le_of_ble_eq_true rfl⟩) rfl hl.1 rfl (lv_room (Nat.le_of_ble_eq_true rfl)) dX12_best_13 ⟨Nat.zero_le _, Nat.zero_le _⟩ (fun q8 S9 H locs hq G => ?_)
    obtain ⟨hq1, hq2⟩ := hq
    rw [hq2] at G
    refine lv_to hq1 ?_
    clear hq1 hq2 eS7
    refine lv_goto (tgt := 20) hx hb dX12_best_16 (by decide) ?_
    have hl := lv_sub hl [] rfl
    exact tr_best_b20 E hA hR hml (fun H locs ls G => W.iret (v := r1) hx hb hr (fun t ht hW => ⟨⟨r1, S1, rfl, ⟨rfl, rfl⟩, ⟨by rw [ht]; exact G.1, va_K.moved hW.alike hK, G.2.1⟩⟩, G.2.2.F ht⟩) G.2.2.2.2 dX12_best_20) _ _ _ _ _ h G hl
end
