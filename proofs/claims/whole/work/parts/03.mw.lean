/-! ===== the reference as a world: its object, then its arrays; S: what the fields and arrays hold ===== -/
abbrev MS : Type := (Nat → Int32) × (Nat → Nat → Int32) × (Nat → Nat → Int64)
abbrev MF (ad : Nat → Nat) (S : MS) : List Value := [.int (S.1 0), .ref (ad 1), .int (S.1 2), .int (S.1 3), .int (S.1 4), .int (S.1 5), .int (S.1 6), .int (S.1 7), .int (S.1 8), .int (S.1 9), .ref (ad 10), .ref (ad 11), .ref (ad 12), .ref (ad 13), .ref (ad 14), .ref (ad 15), .ref (ad 16), .ref (ad 17), .ref (ad 18), .int (S.1 19), .int (S.1 20), .int (S.1 21), .int (S.1 22), .ref (ad 23), .ref (ad 24), .ref (ad 25), .ref (ad 26), .ref (ad 27), .int (S.1 28), .ref (ad 29)]
abbrev MW (cI cJ cZ : ClassId) (ad : Nat → Nat) (S : MS) : va_W := [(ad 0, .inr (12, MF ad S)), (ad 1, .inl (cI, 1000, .inl (S.2.1 1))), (ad 10, .inl (cI, 131, .inl (S.2.1 10))), (ad 11, .inl (cI, 131, .inl (S.2.1 11))), (ad 12, .inl (cI, 2455, .inl (S.2.1 12))), (ad 13, .inl (cI, 2455, .inl (S.2.1 13))), (ad 14, .inl (cI, 2455, .inl (S.2.1 14))), (ad 15, .inl (cI, 14730, .inl (S.2.1 15))), (ad 16, .inl (cI, 4910, .inl (S.2.1 16))), (ad 17, .inl (cI, 1728, .inl (S.2.1 17))), (ad 18, .inl (cZ, 2, .inl (S.2.1 18))), (ad 23, .inl (cI, 200, .inl (S.2.1 23))), (ad 24, .inl (cI, 12, .inl (S.2.1 24))), (ad 25, .inl (cJ, 144, .inr (.inl (S.2.2 25)))), (ad 26, .inl (cJ, 7200, .inr (.inl (S.2.2 26)))), (ad 27, .inl (cI, 160, .inl (S.2.1 27))), (ad 29, .inl (cI, 200, .inl (S.2.1 29)))]
abbrev MT (cI cJ cZ : ClassId) : List (ClassId × FieldType) := [(cI, .int), (cJ, .long), (cZ, .boolean)]
def mi (S : MS) (k : Nat) (v : Int32) : MS := (fun j => bif Nat.beq j k then v else S.1 j, S.2)
def mf (S : MS) (j : Nat) (f : Nat → Int32) : MS := (S.1, (fun a => bif Nat.beq a j then f else S.2.1 a), S.2.2)
def mg (S : MS) (j : Nat) (f : Nat → Int64) : MS := (S.1, S.2.1, (fun a => bif Nat.beq a j then f else S.2.2 a))
theorem mw_i0 (cI cJ cZ : ClassId) (ad : Nat → Nat) (S : MS) (v : Int32) : (MW cI cJ cZ ad S).set 0 (ad 0, .inr (12, (MF ad S).set 0 (.int v))) = MW cI cJ cZ ad (mi S 0 v) := rfl
theorem mw_i2 (cI cJ cZ : ClassId) (ad : Nat → Nat) (S : MS) (v : Int32) : (MW cI cJ cZ ad S).set 0 (ad 0, .inr (12, (MF ad S).set 2 (.int v))) = MW cI cJ cZ ad (mi S 2 v) := rfl
theorem mw_i3 (cI cJ cZ : ClassId) (ad : Nat → Nat) (S : MS) (v : Int32) : (MW cI cJ cZ ad S).set 0 (ad 0, .inr (12, (MF ad S).set 3 (.int v))) = MW cI cJ cZ ad (mi S 3 v) := rfl
theorem mw_i4 (cI cJ cZ : ClassId) (ad : Nat → Nat) (S : MS) (v : Int32) : (MW cI cJ cZ ad S).set 0 (ad 0, .inr (12, (MF ad S).set 4 (.int v))) = MW cI cJ cZ ad (mi S 4 v) := rfl
theorem mw_i5 (cI cJ cZ : ClassId) (ad : Nat → Nat) (S : MS) (v : Int32) : (MW cI cJ cZ ad S).set 0 (ad 0, .inr (12, (MF ad S).set 5 (.int v))) = MW cI cJ cZ ad (mi S 5 v) := rfl
theorem mw_i6 (cI cJ cZ : ClassId) (ad : Nat → Nat) (S : MS) (v : Int32) : (MW cI cJ cZ ad S).set 0 (ad 0, .inr (12, (MF ad S).set 6 (.int v))) = MW cI cJ cZ ad (mi S 6 v) := rfl
theorem mw_i7 (cI cJ cZ : ClassId) (ad : Nat → Nat) (S : MS) (v : Int32) : (MW cI cJ cZ ad S).set 0 (ad 0, .inr (12, (MF ad S).set 7 (.int v))) = MW cI cJ cZ ad (mi S 7 v) := rfl
theorem mw_i8 (cI cJ cZ : ClassId) (ad : Nat → Nat) (S : MS) (v : Int32) : (MW cI cJ cZ ad S).set 0 (ad 0, .inr (12, (MF ad S).set 8 (.int v))) = MW cI cJ cZ ad (mi S 8 v) := rfl
theorem mw_i9 (cI cJ cZ : ClassId) (ad : Nat → Nat) (S : MS) (v : Int32) : (MW cI cJ cZ ad S).set 0 (ad 0, .inr (12, (MF ad S).set 9 (.int v))) = MW cI cJ cZ ad (mi S 9 v) := rfl
theorem mw_i19 (cI cJ cZ : ClassId) (ad : Nat → Nat) (S : MS) (v : Int32) : (MW cI cJ cZ ad S).set 0 (ad 0, .inr (12, (MF ad S).set 19 (.int v))) = MW cI cJ cZ ad (mi S 19 v) := rfl
theorem mw_i20 (cI cJ cZ : ClassId) (ad : Nat → Nat) (S : MS) (v : Int32) : (MW cI cJ cZ ad S).set 0 (ad 0, .inr (12, (MF ad S).set 20 (.int v))) = MW cI cJ cZ ad (mi S 20 v) := rfl
theorem mw_i21 (cI cJ cZ : ClassId) (ad : Nat → Nat) (S : MS) (v : Int32) : (MW cI cJ cZ ad S).set 0 (ad 0, .inr (12, (MF ad S).set 21 (.int v))) = MW cI cJ cZ ad (mi S 21 v) := rfl
theorem mw_i22 (cI cJ cZ : ClassId) (ad : Nat → Nat) (S : MS) (v : Int32) : (MW cI cJ cZ ad S).set 0 (ad 0, .inr (12, (MF ad S).set 22 (.int v))) = MW cI cJ cZ ad (mi S 22 v) := rfl
theorem mw_i28 (cI cJ cZ : ClassId) (ad : Nat → Nat) (S : MS) (v : Int32) : (MW cI cJ cZ ad S).set 0 (ad 0, .inr (12, (MF ad S).set 28 (.int v))) = MW cI cJ cZ ad (mi S 28 v) := rfl
theorem mw_f1 (cI cJ cZ : ClassId) (ad : Nat → Nat) (S : MS) (f : Nat → Int32) : (MW cI cJ cZ ad S).set 1 (ad 1, .inl (cI, 1000, .inl f)) = MW cI cJ cZ ad (mf S 1 f) := rfl
theorem mw_f10 (cI cJ cZ : ClassId) (ad : Nat → Nat) (S : MS) (f : Nat → Int32) : (MW cI cJ cZ ad S).set 2 (ad 10, .inl (cI, 131, .inl f)) = MW cI cJ cZ ad (mf S 10 f) := rfl
theorem mw_f11 (cI cJ cZ : ClassId) (ad : Nat → Nat) (S : MS) (f : Nat → Int32) : (MW cI cJ cZ ad S).set 3 (ad 11, .inl (cI, 131, .inl f)) = MW cI cJ cZ ad (mf S 11 f) := rfl
theorem mw_f12 (cI cJ cZ : ClassId) (ad : Nat → Nat) (S : MS) (f : Nat → Int32) : (MW cI cJ cZ ad S).set 4 (ad 12, .inl (cI, 2455, .inl f)) = MW cI cJ cZ ad (mf S 12 f) := rfl
theorem mw_f13 (cI cJ cZ : ClassId) (ad : Nat → Nat) (S : MS) (f : Nat → Int32) : (MW cI cJ cZ ad S).set 5 (ad 13, .inl (cI, 2455, .inl f)) = MW cI cJ cZ ad (mf S 13 f) := rfl
theorem mw_f14 (cI cJ cZ : ClassId) (ad : Nat → Nat) (S : MS) (f : Nat → Int32) : (MW cI cJ cZ ad S).set 6 (ad 14, .inl (cI, 2455, .inl f)) = MW cI cJ cZ ad (mf S 14 f) := rfl
theorem mw_f15 (cI cJ cZ : ClassId) (ad : Nat → Nat) (S : MS) (f : Nat → Int32) : (MW cI cJ cZ ad S).set 7 (ad 15, .inl (cI, 14730, .inl f)) = MW cI cJ cZ ad (mf S 15 f) := rfl
theorem mw_f16 (cI cJ cZ : ClassId) (ad : Nat → Nat) (S : MS) (f : Nat → Int32) : (MW cI cJ cZ ad S).set 8 (ad 16, .inl (cI, 4910, .inl f)) = MW cI cJ cZ ad (mf S 16 f) := rfl
theorem mw_f17 (cI cJ cZ : ClassId) (ad : Nat → Nat) (S : MS) (f : Nat → Int32) : (MW cI cJ cZ ad S).set 9 (ad 17, .inl (cI, 1728, .inl f)) = MW cI cJ cZ ad (mf S 17 f) := rfl
theorem mw_f18 (cI cJ cZ : ClassId) (ad : Nat → Nat) (S : MS) (f : Nat → Int32) : (MW cI cJ cZ ad S).set 10 (ad 18, .inl (cZ, 2, .inl f)) = MW cI cJ cZ ad (mf S 18 f) := rfl
theorem mw_f23 (cI cJ cZ : ClassId) (ad : Nat → Nat) (S : MS) (f : Nat → Int32) : (MW cI cJ cZ ad S).set 11 (ad 23, .inl (cI, 200, .inl f)) = MW cI cJ cZ ad (mf S 23 f) := rfl
theorem mw_f24 (cI cJ cZ : ClassId) (ad : Nat → Nat) (S : MS) (f : Nat → Int32) : (MW cI cJ cZ ad S).set 12 (ad 24, .inl (cI, 12, .inl f)) = MW cI cJ cZ ad (mf S 24 f) := rfl
theorem mw_g25 (cI cJ cZ : ClassId) (ad : Nat → Nat) (S : MS) (f : Nat → Int64) : (MW cI cJ cZ ad S).set 13 (ad 25, .inl (cJ, 144, .inr (.inl f))) = MW cI cJ cZ ad (mg S 25 f) := rfl
theorem mw_g26 (cI cJ cZ : ClassId) (ad : Nat → Nat) (S : MS) (f : Nat → Int64) : (MW cI cJ cZ ad S).set 14 (ad 26, .inl (cJ, 7200, .inr (.inl f))) = MW cI cJ cZ ad (mg S 26 f) := rfl
theorem mw_f27 (cI cJ cZ : ClassId) (ad : Nat → Nat) (S : MS) (f : Nat → Int32) : (MW cI cJ cZ ad S).set 15 (ad 27, .inl (cI, 160, .inl f)) = MW cI cJ cZ ad (mf S 27 f) := rfl
theorem mw_f29 (cI cJ cZ : ClassId) (ad : Nat → Nat) (S : MS) (f : Nat → Int32) : (MW cI cJ cZ ad S).set 16 (ad 29, .inl (cI, 200, .inl f)) = MW cI cJ cZ ad (mf S 29 f) := rfl
/-- what a method of the reference has at hand: the machine, its code, its words, its class, the tables -/
def mE (p : Program) (c : Code) (cc : ByteArray) (s : State) (m : MethodId) (args : Array Value) (Ts : List Cond) (D : va_G) (cI cJ cZ : ClassId) : Prop := p.tables.exec = Jvm.exec ∧ c.code = cc ∧ (∀ w ∈ Ts, w.before args s = true) ∧ s.vm.findClass RX12 = some m.cls ∧ va_K D vwCl (MT cI cJ cZ) s ∧ (∀ w ∈ wsX120, w ∈ Ts)
/-- the world at a point of the walk -/
def mG (D : va_G) (cI cJ cZ : ClassId) (ad : Nat → Nat) (A : Nat → Prop) (H0 H : Heap) (locs : List Loc) (S : MS) : Prop := va_P D vwCl (MW cI cJ cZ ad S) H ∧ va_D A (MW cI cJ cZ ad S) ∧ va_S A H0 H locs
section MWR
variable {p : Program} {l : Launch} {e : Env} {R : Room} {s : State} {m : MethodId} {args : Array Value} {below : List Frame} {meth : Method} {c : Code} {H : Heap} {locs : List Loc} {cells slots : Nat} {Q : State → Prop}
variable {cc : ByteArray} {pc : Nat} {ls : Array Slot} {rest : List Value} {D : va_G} {A : Nat → Prop} {H0 : Heap} {Ts : List Cond} {cI cJ cZ : ClassId} {ad : Nat → Nat} {S : MS}
/-- a field of the reference is read -/
theorem m_get (E : mE p c cc s m args Ts D cI cJ cZ) (G : mG D cI cJ cZ ad A H0 H locs S) (k : Nat) {idx : Nat} {v : Value} (hk : k < 30) (hl : Cond.fieldLink RX12 idx "AcousticCameraModel" (TX12 k).2.1 (TX12 k).2.2.1 ∈ Ts) (hv : (MF ad S)[k]? = some v) (hdg : decode cc pc = .ok (.getfield idx, 3)) (he : (TX12 k).1 = "AcousticCameraModel") (kk : W p l e R s m args below meth c H locs cells slots Q (F0 m (pc + 3) ls (v :: rest))) : W p l e R s m args below meth c H locs cells slots Q (F0 m pc ls (.ref (ad 0) :: rest)) :=
  va_get (ref := "AcousticCameraModel") (own := RX12) E.1 E.2.1 E.2.2.1 E.2.2.2.2.2 E.2.2.2.1 E.2.2.2.2.1 G.1 0 rfl rfl k hk (E.2.2.1 _ hl) (fun _ h => by rw [he] at h; exact h) hv hdg kk
/-- a field of numbers is written -/
theorem m_put (E : mE p c cc s m args Ts D cI cJ cZ) (G : mG D cI cJ cZ ad A H0 H locs S) (k : Nat) {idx : Nat} {v : Int32} {S1 : MS} (hk : k < 30) (hl : Cond.fieldLink RX12 idx "AcousticCameraModel" (TX12 k).2.1 (TX12 k).2.2.1 ∈ Ts) (hs : (MW cI cJ cZ ad S).set 0 (ad 0, .inr (12, (MF ad S).set k (.int v))) = MW cI cJ cZ ad S1) (hdg : decode cc pc = .ok (.putfield idx, 3)) {ty : FieldType} (he : (TX12 k).1 = "AcousticCameraModel" ∧ (TX12 k).2.2.2 = false ∧ parseFieldDescriptor (TX12 k).2.2.1 = some ty) (hn : narrow ty (.int v) = .int v) (hf : fits ty (.int v) = true) (kk : ∀ (H1 : Heap) (locs1 : List Loc), mG D cI cJ cZ ad A H0 H1 locs1 S1 → W p l e R s m args below meth c H1 locs1 cells slots Q (F0 m (pc + 3) ls rest)) : W p l e R s m args below meth c H locs cells slots Q (F0 m pc ls (.int v :: .ref (ad 0) :: rest)) :=
  va_put (ref := "AcousticCameraModel") (own := RX12) E.1 E.2.1 E.2.2.1 E.2.2.2.2.2 tyX12 tyX12_ok nmX12 E.2.2.2.1 E.2.2.2.2.1 G.1 G.2.1 G.2.2 0 rfl rfl k hk (E.2.2.1 _ hl) (fun _ h => by rw [he.1] at h; exact h) he.2.1 he.2.2 hn hf hk hdg (fun H1 locs1 h1 h2 h3 => kk H1 locs1 ⟨by rw [← hs]; exact h1, by rw [← hs]; exact h2, h3⟩)
theorem m_iald (E : mE p c cc s m args Ts D cI cJ cZ) (G : mG D cI cJ cZ ad A H0 H locs S) (j q0 : Nat) {n k : Nat} {i : Int32} (ha : (MW cI cJ cZ ad S)[q0]? = some (ad j, .inl (cI, n, .inl (S.2.1 j)))) (hi : i = nI k) (hk : k < n) (hn : n < 2 ^ 31) (hdg : decode cc pc = .ok (.iaload, 1)) (kk : W p l e R s m args below meth c H locs cells slots Q (F0 m (pc + 1) ls (.int (S.2.1 j k) :: rest))) : W p l e R s m args below meth c H locs cells slots Q (F0 m pc ls (.int i :: .ref (ad j) :: rest)) := by
  subst hi
  refine va_iald E.1 E.2.1 E.2.2.2.2.1 G.1 q0 0 ha rfl (vp_in_nI hk hn) hdg ?_
  rw [nI_clamp (Nat.lt_trans hk hn)]
  exact kk
theorem m_zald (E : mE p c cc s m args Ts D cI cJ cZ) (G : mG D cI cJ cZ ad A H0 H locs S) (j q0 : Nat) {n k : Nat} {i : Int32} (ha : (MW cI cJ cZ ad S)[q0]? = some (ad j, .inl (cZ, n, .inl (S.2.1 j)))) (hi : i = nI k) (hk : k < n) (hn : n < 2 ^ 31) (hdg : decode cc pc = .ok (.baload, 1)) (kk : W p l e R s m args below meth c H locs cells slots Q (F0 m (pc + 1) ls (.int (S.2.1 j k) :: rest))) : W p l e R s m args below meth c H locs cells slots Q (F0 m pc ls (.int i :: .ref (ad j) :: rest)) := by
  subst hi
  refine va_zald E.1 E.2.1 E.2.2.2.2.1 G.1 q0 2 ha rfl (vp_in_nI hk hn) hdg ?_
  rw [nI_clamp (Nat.lt_trans hk hn)]
  exact kk
theorem m_lald (E : mE p c cc s m args Ts D cI cJ cZ) (G : mG D cI cJ cZ ad A H0 H locs S) (j q0 : Nat) {n k : Nat} {i : Int32} (ha : (MW cI cJ cZ ad S)[q0]? = some (ad j, .inl (cJ, n, .inr (.inl (S.2.2 j))))) (hi : i = nI k) (hk : k < n) (hn : n < 2 ^ 31) (hdg : decode cc pc = .ok (.laload, 1)) (kk : W p l e R s m args below meth c H locs cells slots Q (F0 m (pc + 1) ls (.long (S.2.2 j k) :: rest))) : W p l e R s m args below meth c H locs cells slots Q (F0 m pc ls (.int i :: .ref (ad j) :: rest)) := by
  subst hi
  refine va_lald E.1 E.2.1 E.2.2.2.2.1 G.1 q0 1 ha rfl (vp_in_nI hk hn) hdg ?_
  rw [nI_clamp (Nat.lt_trans hk hn)]
  exact kk
theorem m_iast (E : mE p c cc s m args Ts D cI cJ cZ) (G : mG D cI cJ cZ ad A H0 H locs S) (j q0 : Nat) {n k : Nat} {i v : Int32} (ha : (MW cI cJ cZ ad S)[q0]? = some (ad j, .inl (cI, n, .inl (S.2.1 j)))) (hs : ∀ f, (MW cI cJ cZ ad S).set q0 (ad j, .inl (cI, n, .inl f)) = MW cI cJ cZ ad (mf S j f)) (hi : i = nI k) (hk : k < n) (hn : n < 2 ^ 31) (hdg : decode cc pc = .ok (.iastore, 1)) (kk : ∀ (H1 : Heap) (locs1 : List Loc), mG D cI cJ cZ ad A H0 H1 locs1 (mf S j (upd (S.2.1 j) k v)) → W p l e R s m args below meth c H1 locs1 cells slots Q (F0 m (pc + 1) ls rest)) : W p l e R s m args below meth c H locs cells slots Q (F0 m pc ls (.int v :: .int i :: .ref (ad j) :: rest)) := by
  subst hi
  refine va_iast E.1 E.2.1 E.2.2.2.2.1 G.1 G.2.1 G.2.2 q0 0 ha rfl (vp_in_nI hk hn) hdg (fun H1 locs1 h1 h2 h3 => kk H1 locs1 ?_)
  rw [nI_clamp (Nat.lt_trans hk hn), hs] at h1 h2
  exact ⟨h1, h2, h3⟩
theorem m_last (E : mE p c cc s m args Ts D cI cJ cZ) (G : mG D cI cJ cZ ad A H0 H locs S) (j q0 : Nat) {n k : Nat} {i : Int32} {v : Int64} (ha : (MW cI cJ cZ ad S)[q0]? = some (ad j, .inl (cJ, n, .inr (.inl (S.2.2 j))))) (hs : ∀ f, (MW cI cJ cZ ad S).set q0 (ad j, .inl (cJ, n, .inr (.inl f))) = MW cI cJ cZ ad (mg S j f)) (hi : i = nI k) (hk : k < n) (hn : n < 2 ^ 31) (hdg : decode cc pc = .ok (.lastore, 1)) (kk : ∀ (H1 : Heap) (locs1 : List Loc), mG D cI cJ cZ ad A H0 H1 locs1 (mg S j (vp_updL (S.2.2 j) k v)) → W p l e R s m args below meth c H1 locs1 cells slots Q (F0 m (pc + 1) ls rest)) : W p l e R s m args below meth c H locs cells slots Q (F0 m pc ls (.long v :: .int i :: .ref (ad j) :: rest)) := by
  subst hi
  refine va_last E.1 E.2.1 E.2.2.2.2.1 G.1 G.2.1 G.2.2 q0 1 ha rfl (vp_in_nI hk hn) hdg (fun H1 locs1 h1 h2 h3 => kk H1 locs1 ?_)
  rw [nI_clamp (Nat.lt_trans hk hn), hs] at h1 h2
  exact ⟨h1, h2, h3⟩
end MWR
abbrev mB (D : va_G) (cI cJ cZ : ClassId) (ad : Nat → Nat) (S : MS) (sz : Nat) : State → Prop := fun U => U.heap.size = sz ∧ va_P D vwCl (MW cI cJ cZ ad S) U.heap ∧ va_K D vwCl (MT cI cJ cZ) U ∧ va_D (fun _ => True) (MW cI cJ cZ ad S)
abbrev mAt (D : va_G) (cI cJ cZ : ClassId) (ad : Nat → Nat) (A : Nat → Prop) (S : MS) (t : State) : Prop := va_P D vwCl (MW cI cJ cZ ad S) t.heap ∧ va_K D vwCl (MT cI cJ cZ) t ∧ va_D A (MW cI cJ cZ ad S)
/-- a contract of a method of the reference that answers a number: from the state S, post answer state -/
abbrev mCi (l : Launch) (y : MethodName) (ws : List Cond) (fr lo : Nat) (D : va_G) (cI cJ cZ : ClassId) (ad : Nat → Nat) (S : MS) (As : List Value) (post : Int32 → MS → Prop) : Prop := ∀ sz : Nat, Met l y ws { frames := fr, cells := 0, slots := 0, locals := lo } (va_Pc (.ref (ad 0) :: As) (mB D cI cJ cZ ad S sz)) (va_Qi post (mAt D cI cJ cZ ad (va_A (MW cI cJ cZ ad S) sz)) (va_A (MW cI cJ cZ ad S) sz)) 0 0 (va_A (MW cI cJ cZ ad S) sz)
abbrev mCl (l : Launch) (y : MethodName) (ws : List Cond) (fr lo : Nat) (D : va_G) (cI cJ cZ : ClassId) (ad : Nat → Nat) (S : MS) (As : List Value) (post : Int64 → MS → Prop) : Prop := ∀ sz : Nat, Met l y ws { frames := fr, cells := 0, slots := 0, locals := lo } (va_Pc (.ref (ad 0) :: As) (mB D cI cJ cZ ad S sz)) (va_Ql post (mAt D cI cJ cZ ad (va_A (MW cI cJ cZ ad S) sz)) (va_A (MW cI cJ cZ ad S) sz)) 0 0 (va_A (MW cI cJ cZ ad S) sz)
abbrev mCf (l : Launch) (y : MethodName) (ws : List Cond) (fr lo : Nat) (D : va_G) (cI cJ cZ : ClassId) (ad : Nat → Nat) (S : MS) (As : List Value) (post : UInt32 → MS → Prop) : Prop := ∀ sz : Nat, Met l y ws { frames := fr, cells := 0, slots := 0, locals := lo } (va_Pc (.ref (ad 0) :: As) (mB D cI cJ cZ ad S sz)) (va_Qf post (mAt D cI cJ cZ ad (va_A (MW cI cJ cZ ad S) sz)) (va_A (MW cI cJ cZ ad S) sz)) 0 0 (va_A (MW cI cJ cZ ad S) sz)
abbrev mCv (l : Launch) (y : MethodName) (ws : List Cond) (fr lo : Nat) (D : va_G) (cI cJ cZ : ClassId) (ad : Nat → Nat) (S : MS) (As : List Value) (post : MS → Prop) : Prop := ∀ sz : Nat, Met l y ws { frames := fr, cells := 0, slots := 0, locals := lo } (va_Pc (.ref (ad 0) :: As) (mB D cI cJ cZ ad S sz)) (va_Qv post (mAt D cI cJ cZ ad (va_A (MW cI cJ cZ ad S) sz)) (va_A (MW cI cJ cZ ad S) sz)) 0 0 (va_A (MW cI cJ cZ ad S) sz)
theorem m_addn {x y : Int32} {a b : Nat} (hx : x = nI a) (hy : y = nI b) : x + y = nI (a + b) := by rw [hx, hy]; exact nI_add a b
theorem m_muln {x y : Int32} {a b : Nat} (hx : x = nI a) (hy : y = nI b) : x * y = nI (a * b) := by rw [hx, hy]; exact pk_mul a b
theorem m_noin {v lo hi : Int32} (h : hi < lo) : (if lo ≤ v ∧ v ≤ hi then (1 : Int32) else 0) = 0 := if_neg (fun q => absurd h (Int32.not_lt.mpr (Int32.le_trans q.1 q.2)))
section MWC
variable {p : Program} {l : Launch} {e : Env} {R : Room} {s : State} {m : MethodId} {args : Array Value} {below : List Frame} {meth : Method} {c : Code} {H : Heap} {locs : List Loc} {cells slots : Nat} {Q : State → Prop}
variable {cc : ByteArray} {pc : Nat} {ls : Array Slot} {rest : List Value} {D : va_G} {A : Nat → Prop} {H0 : Heap} {Ts : List Cond} {cI cJ cZ : ClassId} {ad : Nat → Nat} {S : MS}
/-- a call of a method of the reference by the reference -/
theorem m_calli {y : MethodName} {bytes : ByteArray} {maxL nL n index fr lo : Nat} {ret : Option FieldType} {ws : List Cond} {As : List Value} {post : Int32 → MS → Prop} (E : mE p c cc s m args Ts D cI cJ cZ) (G : mG D cI cJ cZ ad A H0 H locs S) (hA : ∀ q, H0.size ≤ q → A q) (hml : c.maxLocals = nL) (hM : mCi l y ws fr lo D cI cJ cZ ad S As post) (cw : CallW R s args RX12 RX12 index y bytes maxL ret ws { frames := fr, cells := 0, slots := 0, locals := lo } 0 0 n) (hn : As.length = n) (hsz : ls.size = nL) {st : List Value} (hst : st = As.reverse ++ .ref (ad 0) :: rest) (hW : 2 * (F0 m pc ls st).monitorRoom + (rest.map fun v => v.category).sum ≤ 8) (hdg : decode cc pc = .ok (.invokevirtual index, 3)) (hf : cells ≤ R.cells ∧ slots ≤ R.slots) (kk : ∀ (r : Int32) (S1 : MS) (H1 : Heap) (locs1 : List Loc), post r S1 → mG D cI cJ cZ ad A H0 H1 locs1 S1 → W p l e R s m args below meth c H1 locs1 cells slots Q (F0 m (pc + 3) ls (.int r :: rest))) : W p l e R s m args below meth c H locs cells slots Q (F0 m pc ls st) := by
  obtain ⟨hx, hb, hts, hown, hK, hin⟩ := E
  obtain ⟨hP, hD, hS⟩ := G
  have hFc := va_free (wc := MW cI cJ cZ ad S) hD hS hA [0, 1, 2, 3, 4, 5, 6, 7, 8, 9, 10, 11, 12, 13, 14, 15, 16] rfl
  refine va_calli (va_runV (As := As) (rest := rest) ⟨hx, hb, hml, hown, hts⟩ (hM H.size) cw ⟨fun a U g mk q => by obtain ⟨q0, q1, qP, qK, qD⟩ := q; exact ⟨q0, q1, qP, va_K.moved (u := U) (U := U.calling g mk a) (Vm.Alike.refl U.vm) qK, qD⟩, va_recv hK hP (ci := 12) (q0 := 0) rfl rfl, fun U hU hW => ⟨rfl, by rw [hU], by rw [hU]; exact hP, va_K.moved hW.alike hK, hD.weaken (fun _ _ _ _ => trivial)⟩⟩ rfl hn hsz hst hW hdg hf) hS (fun q _ h => hFc q h) hFc (fun r u t H1 locs1 ht hvm hw hB hz1 hk1 hS => ?_)
  obtain ⟨hP1, hK1, hD1⟩ := hB
  rw [ht] at hP1
  obtain ⟨hP2, hD2⟩ := va_join (wr := []) (w1 := MW cI cJ cZ ad u) hP hD [0, 1, 2, 3, 4, 5, 6, 7, 8, 9, 10, 11, 12, 13, 14, 15, 16] [] rfl rfl (by decide) (by decide) hk1 hFc hP1 hD1
  exact kk r u H1 locs1 hw ⟨hP2, hD2, hS⟩
/-- a call of a method of the reference by the reference -/
theorem m_calll {y : MethodName} {bytes : ByteArray} {maxL nL n index fr lo : Nat} {ret : Option FieldType} {ws : List Cond} {As : List Value} {post : Int64 → MS → Prop} (E : mE p c cc s m args Ts D cI cJ cZ) (G : mG D cI cJ cZ ad A H0 H locs S) (hA : ∀ q, H0.size ≤ q → A q) (hml : c.maxLocals = nL) (hM : mCl l y ws fr lo D cI cJ cZ ad S As post) (cw : CallW R s args RX12 RX12 index y bytes maxL ret ws { frames := fr, cells := 0, slots := 0, locals := lo } 0 0 n) (hn : As.length = n) (hsz : ls.size = nL) {st : List Value} (hst : st = As.reverse ++ .ref (ad 0) :: rest) (hW : 2 * (F0 m pc ls st).monitorRoom + (rest.map fun v => v.category).sum ≤ 8) (hdg : decode cc pc = .ok (.invokevirtual index, 3)) (hf : cells ≤ R.cells ∧ slots ≤ R.slots) (kk : ∀ (r : Int64) (S1 : MS) (H1 : Heap) (locs1 : List Loc), post r S1 → mG D cI cJ cZ ad A H0 H1 locs1 S1 → W p l e R s m args below meth c H1 locs1 cells slots Q (F0 m (pc + 3) ls (.long r :: rest))) : W p l e R s m args below meth c H locs cells slots Q (F0 m pc ls st) := by
  obtain ⟨hx, hb, hts, hown, hK, hin⟩ := E
  obtain ⟨hP, hD, hS⟩ := G
  have hFc := va_free (wc := MW cI cJ cZ ad S) hD hS hA [0, 1, 2, 3, 4, 5, 6, 7, 8, 9, 10, 11, 12, 13, 14, 15, 16] rfl
  refine va_calll (va_runV (As := As) (rest := rest) ⟨hx, hb, hml, hown, hts⟩ (hM H.size) cw ⟨fun a U g mk q => by obtain ⟨q0, q1, qP, qK, qD⟩ := q; exact ⟨q0, q1, qP, va_K.moved (u := U) (U := U.calling g mk a) (Vm.Alike.refl U.vm) qK, qD⟩, va_recv hK hP (ci := 12) (q0 := 0) rfl rfl, fun U hU hW => ⟨rfl, by rw [hU], by rw [hU]; exact hP, va_K.moved hW.alike hK, hD.weaken (fun _ _ _ _ => trivial)⟩⟩ rfl hn hsz hst hW hdg hf) hS (fun q _ h => hFc q h) hFc (fun r u t H1 locs1 ht hvm hw hB hz1 hk1 hS => ?_)
  obtain ⟨hP1, hK1, hD1⟩ := hB
  rw [ht] at hP1
  obtain ⟨hP2, hD2⟩ := va_join (wr := []) (w1 := MW cI cJ cZ ad u) hP hD [0, 1, 2, 3, 4, 5, 6, 7, 8, 9, 10, 11, 12, 13, 14, 15, 16] [] rfl rfl (by decide) (by decide) hk1 hFc hP1 hD1
  exact kk r u H1 locs1 hw ⟨hP2, hD2, hS⟩
/-- a call of a method of the reference by the reference -/
theorem m_callv {y : MethodName} {bytes : ByteArray} {maxL nL n index fr lo : Nat} {ret : Option FieldType} {ws : List Cond} {As : List Value} {post : MS → Prop} (E : mE p c cc s m args Ts D cI cJ cZ) (G : mG D cI cJ cZ ad A H0 H locs S) (hA : ∀ q, H0.size ≤ q → A q) (hml : c.maxLocals = nL) (hM : mCv l y ws fr lo D cI cJ cZ ad S As post) (cw : CallW R s args RX12 RX12 index y bytes maxL ret ws { frames := fr, cells := 0, slots := 0, locals := lo } 0 0 n) (hn : As.length = n) (hsz : ls.size = nL) {st : List Value} (hst : st = As.reverse ++ .ref (ad 0) :: rest) (hW : 2 * (F0 m pc ls st).monitorRoom + (rest.map fun v => v.category).sum ≤ 8) (hdg : decode cc pc = .ok (.invokevirtual index, 3)) (hf : cells ≤ R.cells ∧ slots ≤ R.slots) (kk : ∀ (S1 : MS) (H1 : Heap) (locs1 : List Loc), post S1 → mG D cI cJ cZ ad A H0 H1 locs1 S1 → W p l e R s m args below meth c H1 locs1 cells slots Q (F0 m (pc + 3) ls rest)) : W p l e R s m args below meth c H locs cells slots Q (F0 m pc ls st) := by
  obtain ⟨hx, hb, hts, hown, hK, hin⟩ := E
  obtain ⟨hP, hD, hS⟩ := G
  have hFc := va_free (wc := MW cI cJ cZ ad S) hD hS hA [0, 1, 2, 3, 4, 5, 6, 7, 8, 9, 10, 11, 12, 13, 14, 15, 16] rfl
  refine va_callv (va_runV (As := As) (rest := rest) ⟨hx, hb, hml, hown, hts⟩ (hM H.size) cw ⟨fun a U g mk q => by obtain ⟨q0, q1, qP, qK, qD⟩ := q; exact ⟨q0, q1, qP, va_K.moved (u := U) (U := U.calling g mk a) (Vm.Alike.refl U.vm) qK, qD⟩, va_recv hK hP (ci := 12) (q0 := 0) rfl rfl, fun U hU hW => ⟨rfl, by rw [hU], by rw [hU]; exact hP, va_K.moved hW.alike hK, hD.weaken (fun _ _ _ _ => trivial)⟩⟩ rfl hn hsz hst hW hdg hf) hS (fun q _ h => hFc q h) hFc (fun u t H1 locs1 ht hvm hw hB hz1 hk1 hS => ?_)
  obtain ⟨hP1, hK1, hD1⟩ := hB
  rw [ht] at hP1
  obtain ⟨hP2, hD2⟩ := va_join (wr := []) (w1 := MW cI cJ cZ ad u) hP hD [0, 1, 2, 3, 4, 5, 6, 7, 8, 9, 10, 11, 12, 13, 14, 15, 16] [] rfl rfl (by decide) (by decide) hk1 hFc hP1 hD1
  exact kk u H1 locs1 hw ⟨hP2, hD2, hS⟩
/-- a static call by the reference: nothing of the world is touched -/
theorem m_stat {y : MethodName} {bytes : ByteArray} {maxL nL n index fr lo : Nat} {ret : Option FieldType} {ws : List Cond} {As : List Value} {post : Int32 → Prop} {own : String} (F : CallFix p m c cc nL s args Ts own) (hM : Met l y ws { frames := fr, cells := 0, slots := 0, locals := lo } (va_Pc As (fun _ => True)) (vp_Si post) 0 0 (fun _ => False)) (cw : CallB R s args own index y bytes maxL ret ws { frames := fr, cells := 0, slots := 0, locals := lo } 0 0 n ∧ (Cond.static y).before args s = true) (hn : As.length = n) (hsz : ls.size = nL) {st : List Value} (hst : st = As.reverse ++ rest) (hW : 2 * (F0 m pc ls st).monitorRoom + (rest.map fun v => v.category).sum ≤ 8) (hdg : decode cc pc = .ok (.invokestatic index, 3)) (hf : cells ≤ R.cells ∧ slots ≤ R.slots) (kk : ∀ r : Int32, post r → W p l e R s m args below meth c H locs cells slots Q (F0 m (pc + 3) ls (.int r :: rest))) : W p l e R s m args below meth c H locs cells slots Q (F0 m pc ls st) :=
  vp_callSi (W.runS F hM cw ⟨fun a U g mk q => q, fun U hU hW => ⟨rfl, trivial⟩⟩ rfl hn hsz hst hW hdg hf) kk
theorem lv_tol {x y : Int64} (h : x = y) (k : W p l e R s m args below meth c H locs cells slots Q (F0 m pc ls (.long y :: rest))) : W p l e R s m args below meth c H locs cells slots Q (F0 m pc ls (.long x :: rest)) := by
  subst h
  exact k
theorem lv_to {x y : Int32} (h : x = y) (k : W p l e R s m args below meth c H locs cells slots Q (F0 m pc ls (.int y :: rest))) : W p l e R s m args below meth c H locs cells slots Q (F0 m pc ls (.int x :: rest)) := by
  subst h
  exact k
end MWC
