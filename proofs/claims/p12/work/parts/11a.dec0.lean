def elet {α β : Type} (x : α) (f : α → Option β) : Option β := f x
def oif {β : Type} (c : Prop) [Decidable c] (x : Option β) : Option β := if c then x else none
def obind {α β : Type} (x : Option α) (f : α → Option β) : Option β := match x with
  | none => none
  | some a => f a
def obind2 {α β γ : Type} (x : Option (α × β)) (f : α → β → Option γ) : Option γ := match x with
  | none => none
  | some (a, b) => f a b
theorem elet_some {α β : Type} {x : α} {f : α → Option β} {y : β} (h : elet x f = some y) : ∃ v, v = x ∧ f v = some y := ⟨x, rfl, h⟩
theorem elet_at {α β : Type} {x v : α} {f : α → Option β} {y : β} (e : v = x) (h : elet x f = some y) : f v = some y := by rw [e]; exact h
theorem oif_some {β : Type} {c : Prop} [Decidable c] {x : Option β} {y : β} (h : oif c x = some y) : c ∧ x = some y := by
  unfold oif at h
  by_cases hc : c
  · rw [if_pos hc] at h
    exact ⟨hc, h⟩
  · rw [if_neg hc] at h
    cases h
theorem oif_pos {β : Type} {c : Prop} [Decidable c] {x z : Option β} {y : β} (hc : c) (h : (if c then x else z) = some y) : x = some y := by rw [if_pos hc] at h; exact h
theorem oif_neg {β : Type} {c : Prop} [Decidable c] {x z : Option β} {y : β} (hc : ¬ c) (h : (if c then x else z) = some y) : z = some y := by rw [if_neg hc] at h; exact h
theorem obind_some {α β : Type} {x : Option α} {f : α → Option β} {y : β} (h : obind x f = some y) : ∃ a, x = some a ∧ f a = some y := by
  cases x with
  | none => cases h
  | some a => exact ⟨a, rfl, h⟩
theorem obind2_some {α β γ : Type} {x : Option (α × β)} {f : α → β → Option γ} {y : γ} (h : obind2 x f = some y) : ∃ a b, x = some (a, b) ∧ f a b = some y := by
  cases x with
  | none => cases h
  | some q => exact ⟨q.1, q.2, rfl, h⟩
theorem osome1 {α : Type} {x y : α} (h : some x = some y) : x = y := Option.some.inj h
theorem osome2 {α β : Type} {x y : α} {u v : β} (h : some (x, u) = some (y, v)) : x = y ∧ u = v := ⟨congrArg Prod.fst (Option.some.inj h), congrArg Prod.snd (Option.some.inj h)⟩
def inb (i : Int32) (n : Nat) : Bool := decide (0 ≤ i) && Nat.blt i.toNatClampNeg n
theorem inb_k {i : Int32} {n : Nat} (h : inb i n = true) : i = nI i.toNatClampNeg ∧ i.toNatClampNeg < n := by
  have h1 := (Bool.and_eq_true _ _).mp h
  have h2 : 0 ≤ i := of_decide_eq_true h1.1
  have h3 : ¬ i < 0 := Int32.not_lt.mpr h2
  obtain ⟨j, hj, e⟩ := nI_of h3
  have h4 : i.toNatClampNeg = j := by rw [e]; exact nI_clamp hj
  exact ⟨by rw [h4]; exact e, Nat.le_of_ble_eq_true h1.2⟩
theorem nar01 {v : Int32} (h : v = 0 ∨ v = 1) : narrow .boolean (.int v) = .int v := by rcases h with rfl | rfl <;> rfl
theorem tsw_ne {x : Int32} {k : Int32} {a : Int} (hk : k.toInt = a) (h : ¬ x = k) : ¬ x.toInt = a := fun q => h (Int32.toInt_inj.mp (by rw [hk]; exact q))
theorem tsw_0_2 {x : Int32} (h0 : ¬ x = 0) (h1 : ¬ x = 1) (h2 : ¬ x = 2) : x.toInt < 0 ∨ 2 < x.toInt := by
  have a0 := tsw_ne (a := 0) (by decide) h0
  have a1 := tsw_ne (a := 1) (by decide) h1
  have a2 := tsw_ne (a := 2) (by decide) h2
  omega
theorem tsw_0_3 {x : Int32} (h0 : ¬ x = 0) (h1 : ¬ x = 1) (h2 : ¬ x = 2) (h3 : ¬ x = 3) : x.toInt < 0 ∨ 3 < x.toInt := by
  have a0 := tsw_ne (a := 0) (by decide) h0
  have a1 := tsw_ne (a := 1) (by decide) h1
  have a2 := tsw_ne (a := 2) (by decide) h2
  have a3 := tsw_ne (a := 3) (by decide) h3
  omega
abbrev mCs (l : Launch) (y : MethodName) (ws : List Cond) (fr lo : Nat) (D : va_G) (cI cJ cZ : ClassId) (ad : Nat → Nat) (S : MS) (As : List Value) (post : MS → Prop) : Prop := ∀ sz : Nat, Met l y ws { frames := fr, cells := 0, slots := 0, locals := lo } (va_Pc As (mB D cI cJ cZ ad S sz)) (va_Qv post (mAt D cI cJ cZ ad (va_A (MW cI cJ cZ ad S) sz)) (va_A (MW cI cJ cZ ad S) sz)) 0 0 (va_A (MW cI cJ cZ ad S) sz)
section DEC
variable {p : Program} {l : Launch} {e : Env} {R : Room} {s : State} {m : MethodId} {args : Array Value} {below : List Frame} {meth : Method} {c : Code} {H : Heap} {locs : List Loc} {cells slots : Nat} {Q : State → Prop}
variable {cc : ByteArray} {pc : Nat} {ls : Array Slot} {rest : List Value} {D : va_G} {A : Nat → Prop} {H0 : Heap} {Ts : List Cond} {cI cJ cZ : ClassId} {ad : Nat → Nat} {S : MS}
/-- a static call by the reference that is handed its arrays -/
theorem m_calls {y : MethodName} {bytes : ByteArray} {maxL nL n index fr lo : Nat} {ret : Option FieldType} {ws : List Cond} {As : List Value} {post : MS → Prop} (E : mE p c cc s m args Ts D cI cJ cZ) (G : mG D cI cJ cZ ad A H0 H locs S) (hA : ∀ q, H0.size ≤ q → A q) (hR : sR s) (hml : c.maxLocals = nL) (hM : mCs l y ws fr lo D cI cJ cZ ad S As post) (cw : CallB R s args RX12 index y bytes maxL ret ws { frames := fr, cells := 0, slots := 0, locals := lo } 0 0 n ∧ (Cond.static y).before args s = true) (hn : As.length = n) (hsz : ls.size = nL) {st : List Value} (hst : st = As.reverse ++ rest) (hW : 2 * (F0 m pc ls st).monitorRoom + (rest.map fun v => v.category).sum ≤ 8) (hdg : decode cc pc = .ok (.invokestatic index, 3)) (hf : cells ≤ R.cells ∧ slots ≤ R.slots) (kk : ∀ (S1 : MS) (H1 : Heap) (locs1 : List Loc), post S1 → mG D cI cJ cZ ad A H0 H1 locs1 S1 → W p l e R s m args below meth c H1 locs1 cells slots Q (F0 m (pc + 3) ls rest)) : W p l e R s m args below meth c H locs cells slots Q (F0 m pc ls st) := by
  obtain ⟨hx, hb, hts, hown, hK, hin⟩ := E
  obtain ⟨hP, hD, hS⟩ := G
  have hFc := va_free (wc := MW cI cJ cZ ad S) hD hS hA [0, 1, 2, 3, 4, 5, 6, 7, 8, 9, 10, 11, 12, 13, 14, 15, 16] rfl
  refine va_callv (va_runS (As := As) (rest := rest) ⟨hx, hb, hml, hown, hts⟩ (hM H.size) cw ⟨fun a U g mk q => by obtain ⟨q0, q1, qP, qK, qD, qR⟩ := q; exact ⟨q0, q1, qP, va_K.moved (u := U) (U := U.calling g mk a) (Vm.Alike.refl U.vm) qK, qD, qR.blind⟩, fun U hU hW => ⟨rfl, by rw [hU], by rw [hU]; exact hP, va_K.moved hW.alike hK, hD.weaken (fun _ _ _ _ => trivial), hR.warm hW⟩⟩ rfl hn hsz hst hW hdg hf) hS (fun q _ h => hFc q h) hFc (fun u t H1 locs1 ht hvm hw hB hz1 hk1 hS => ?_)
  obtain ⟨hP1, hK1, hD1⟩ := hB
  rw [ht] at hP1
  obtain ⟨hP2, hD2⟩ := va_join (wr := []) (w1 := MW cI cJ cZ ad u) hP hD [0, 1, 2, 3, 4, 5, 6, 7, 8, 9, 10, 11, 12, 13, 14, 15, 16] [] rfl rfl (by decide) (by decide) hk1 hFc hP1 hD1
  exact kk u H1 locs1 hw ⟨hP2, hD2, hS⟩
theorem m_zast (E : mE p c cc s m args Ts D cI cJ cZ) (G : mG D cI cJ cZ ad A H0 H locs S) (j q0 : Nat) {n k : Nat} {i v : Int32} (ha : (MW cI cJ cZ ad S)[q0]? = some (ad j, .inl (cZ, n, .inl (S.2.1 j)))) (hs : ∀ f, (MW cI cJ cZ ad S).set q0 (ad j, .inl (cZ, n, .inl f)) = MW cI cJ cZ ad (mf S j f)) (hi : i = nI k) (hk : k < n) (hn : n < 2 ^ 31) (hv : vp_nar .boolean v = v) (hdg : decode cc pc = .ok (.bastore, 1)) (kk : ∀ (H1 : Heap) (locs1 : List Loc), mG D cI cJ cZ ad A H0 H1 locs1 (mf S j (upd (S.2.1 j) k v)) → W p l e R s m args below meth c H1 locs1 cells slots Q (F0 m (pc + 1) ls rest)) : W p l e R s m args below meth c H locs cells slots Q (F0 m pc ls (.int v :: .int i :: .ref (ad j) :: rest)) := by
  subst hi
  refine va_zast E.1 E.2.1 E.2.2.2.2.1 G.1 G.2.1 G.2.2 q0 2 ha rfl (vp_in_nI hk hn) hdg (fun H1 locs1 h1 h2 h3 => kk H1 locs1 ?_)
  rw [nI_clamp (Nat.lt_trans hk hn), hv, hs] at h1 h2
  exact ⟨h1, h2, h3⟩
theorem lv_tof {x y : UInt32} (h : x = y) (k : W p l e R s m args below meth c H locs cells slots Q (F0 m pc ls (.float y :: rest))) : W p l e R s m args below meth c H locs cells slots Q (F0 m pc ls (.float x :: rest)) := by
  subst h
  exact k
end DEC
