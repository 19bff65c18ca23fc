/-! ===== a world of N cells, by number: the cell n lies at ad n and holds S n ===== -/
def cW (ad : Nat → Nat) (N : Nat) (S : Nat → va_E) : va_W := (List.range N).map (fun n => (ad n, S n))
theorem cW_at {ad : Nat → Nat} {N q : Nat} {S : Nat → va_E} (h : q < N) : (cW ad N S)[q]? = some (ad q, S q) := by
  unfold cW
  rw [List.getElem?_map, List.getElem?_range h]
  rfl
theorem cW_e {ad : Nat → Nat} {N q : Nat} {S : Nat → va_E} {e : va_E} (h : q < N) (he : S q = e) : (cW ad N S)[q]? = some (ad q, e) := by rw [cW_at h, he]
theorem cW_none {ad : Nat → Nat} {N q : Nat} {S : Nat → va_E} (h : N ≤ q) : (cW ad N S)[q]? = none := by
  unfold cW
  rw [List.getElem?_map, List.getElem?_eq_none (by rw [List.length_range]; exact h)]
  rfl
theorem cW_len (ad : Nat → Nat) (N : Nat) (S : Nat → va_E) : (cW ad N S).length = N := by
  unfold cW
  rw [List.length_map, List.length_range]
theorem cW_set {ad : Nat → Nat} {N q : Nat} {S : Nat → va_E} (h : q < N) (e : va_E) : (cW ad N S).set q (ad q, e) = cW ad N (va_up S q e) := by
  refine List.ext_getElem? (fun i => ?_)
  rw [List.getElem?_set]
  by_cases hi : q = i
  · subst hi
    rw [if_pos rfl, if_pos (by rw [cW_len]; exact h), cW_at h]
    simp [va_up]
  · rw [if_neg hi]
    by_cases hn : i < N
    · rw [cW_at hn, cW_at hn]
      simp [va_up, Ne.symm hi]
    · rw [cW_none (Nat.not_lt.mp hn), cW_none (Nat.not_lt.mp hn)]
theorem cW_congr {ad : Nat → Nat} {N : Nat} {S T : Nat → va_E} (h : ∀ n, n < N → S n = T n) : cW ad N S = cW ad N T := by
  refine List.ext_getElem? (fun i => ?_)
  by_cases hn : i < N
  · rw [cW_at hn, cW_at hn, h i hn]
  · rw [cW_none (Nat.not_lt.mp hn), cW_none (Nat.not_lt.mp hn)]
theorem cW_all (ad : Nat → Nat) (N : Nat) (S : Nat → va_E) : (List.range N).map (fun i => (cW ad N S)[i]?) = (cW ad N S).map some := by
  unfold cW
  rw [List.map_map]
  refine List.map_congr_left (fun i hi => ?_)
  exact cW_at (List.mem_range.mp hi)
/-- the links among nest mates: no method's own list holds them -/
abbrev xN : List Cond := [.methodLinkNest RX11 9 yX9_init "AcousticCamera", .methodLinkNest RX11 27 yX5_init "AcousticCamera", .methodLinkNest RX5 18 yX7_init "AcousticCamera", .methodLinkNest RX11 34 yX0_init "AcousticCamera", .methodLinkNest RX11 41 yX4_init "AcousticCamera", .methodLinkNest RX11 51 yX8_init "AcousticCamera", .methodLinkNest RX6 19 yX1_init "AcousticCamera", .methodLinkNest RX6 48 yX2_init "AcousticCamera", .methodLinkNest RX6 49 yX7_init "AcousticCamera", .methodLinkNest RX1 33 yX11_remainder "AcousticCamera", .methodLinkNest RX1 37 yX11_quotient "AcousticCamera", .methodLinkNest RX6 81 yX11_root "AcousticCamera", .methodLinkNest RX6 88 yX11_quotient "AcousticCamera", .methodLinkNest RX5 52 yX11_moved "AcousticCamera", .methodLinkNest RX7 21 yX11_remainder "AcousticCamera", .methodLinkNest RX7 37 yX11_quotient "AcousticCamera", .methodLinkNest RX5 128 yX11_quotient "AcousticCamera", .methodLinkNest RX0 47 yX11_quotient "AcousticCamera"]
def nX (U : State) : Prop := va_AO "AcousticCamera$Mic" U ∧ va_AO "AcousticCamera$Source" U ∧ va_AO "AcousticCamera$State" U ∧ va_AOA .int U ∧ va_AOA .long U ∧ ∀ w ∈ xN, va_Nw w U
theorem va_AOA.moved {t : FieldType} {u U : State} (hvm : u.vm.Alike U.vm) (h : va_AOA t u) : va_AOA t U := over_moved (a := #[]) (a' := #[]) hvm h
theorem xN_tab : ∀ w ∈ xN, w.onTables = true := by decide +kernel
theorem xN_warm {s U : State} (hW : s.WarmedH U.vm) (h : ∀ w ∈ xN, va_Nw w s) : ∀ w ∈ xN, va_Nw w U := by
  have h0 : ∀ w ∈ ([] : List Cond), va_Nw w U := fun _ q => absurd q List.not_mem_nil
  exact List.forall_mem_cons.mpr ⟨va_Nw.warmM hW (h _ (List.mem_of_getElem? (i := 0) rfl)), List.forall_mem_cons.mpr ⟨va_Nw.warmM hW (h _ (List.mem_of_getElem? (i := 1) rfl)), List.forall_mem_cons.mpr ⟨va_Nw.warmM hW (h _ (List.mem_of_getElem? (i := 2) rfl)), List.forall_mem_cons.mpr ⟨va_Nw.warmM hW (h _ (List.mem_of_getElem? (i := 3) rfl)), List.forall_mem_cons.mpr ⟨va_Nw.warmM hW (h _ (List.mem_of_getElem? (i := 4) rfl)), List.forall_mem_cons.mpr ⟨va_Nw.warmM hW (h _ (List.mem_of_getElem? (i := 5) rfl)), List.forall_mem_cons.mpr ⟨va_Nw.warmM hW (h _ (List.mem_of_getElem? (i := 6) rfl)), List.forall_mem_cons.mpr ⟨va_Nw.warmM hW (h _ (List.mem_of_getElem? (i := 7) rfl)), List.forall_mem_cons.mpr ⟨va_Nw.warmM hW (h _ (List.mem_of_getElem? (i := 8) rfl)), List.forall_mem_cons.mpr ⟨va_Nw.warmM hW (h _ (List.mem_of_getElem? (i := 9) rfl)), List.forall_mem_cons.mpr ⟨va_Nw.warmM hW (h _ (List.mem_of_getElem? (i := 10) rfl)), List.forall_mem_cons.mpr ⟨va_Nw.warmM hW (h _ (List.mem_of_getElem? (i := 11) rfl)), List.forall_mem_cons.mpr ⟨va_Nw.warmM hW (h _ (List.mem_of_getElem? (i := 12) rfl)), List.forall_mem_cons.mpr ⟨va_Nw.warmM hW (h _ (List.mem_of_getElem? (i := 13) rfl)), List.forall_mem_cons.mpr ⟨va_Nw.warmM hW (h _ (List.mem_of_getElem? (i := 14) rfl)), List.forall_mem_cons.mpr ⟨va_Nw.warmM hW (h _ (List.mem_of_getElem? (i := 15) rfl)), List.forall_mem_cons.mpr ⟨va_Nw.warmM hW (h _ (List.mem_of_getElem? (i := 16) rfl)), List.forall_mem_cons.mpr ⟨va_Nw.warmM hW (h _ (List.mem_of_getElem? (i := 17) rfl)), h0⟩⟩⟩⟩⟩⟩⟩⟩⟩⟩⟩⟩⟩⟩⟩⟩⟩⟩
theorem nX.moved : ∀ u U : State, u.WarmedH U.vm → nX u → nX U := fun _ _ hW h => ⟨h.1.moved hW.alike, h.2.1.moved hW.alike, h.2.2.1.moved hW.alike, h.2.2.2.1.moved hW.alike, h.2.2.2.2.1.moved hW.alike, xN_warm hW h.2.2.2.2.2⟩
/-- what a throw of the three exceptions needs of a state, none of it among the cells A -/
abbrev xCS : Cond := Cond.codeSync Bundle.tFill LibCode.Throwable.Fill.code 1 (some (.object Bundle.tN))
abbrev xISE : String := "java/lang/IllegalStateException"
abbrev xIOB : String := "java/lang/IndexOutOfBoundsException"
abbrev xIAE : String := "java/lang/IllegalArgumentException"
abbrev xB : List Cond := [xCS, .castable xISE xISE, .castable xIOB xIOB, .castable xIAE xIAE, .declares (Bundle.init0 "java/lang/RuntimeException"), .declares (Bundle.init0 "java/lang/Exception"), .declares (Bundle.init0 Bundle.tN)]
def xT (A : Nat → Prop) (U : State) : Prop :=
  vx_Zq Bundle.tN "UNASSIGNED_STACK" Bundle.steD A U U.heap ∧ vx_Zq Bundle.tN "SUPPRESSED_SENTINEL" Bundle.listD A U U.heap ∧ (∀ w ∈ xB, va_Nw w U) ∧ nX U ∧ sR U
theorem xB_tab : ∀ w ∈ xB, w.onTables = true := by decide +kernel
theorem xCS_setVm {args : Array Value} {s : State} {vm' : Vm} (h : s.vm.Alike vm') : xCS.before args (s.setVm vm') = xCS.before args s := by
  simp only [xCS, Cond.before, Cond.holds, Cond.value, State.methodNamed?_setVm h, State.vm_setVm]
  cases s.methodNamed? Bundle.tFill with
  | none => rfl
  | some m => simp only [Option.bind_some, h.method?]
theorem xB_setVm {args : Array Value} {s : State} {vm' : Vm} (h : s.vm.Alike vm') : ∀ w ∈ xB, w.before args (s.setVm vm') = w.before args s := by
  intro w hw
  simp only [xB, List.mem_cons, List.not_mem_nil, or_false] at hw
  rcases hw with rfl | rfl | rfl | rfl | rfl | rfl | rfl
  · exact xCS_setVm h
  · exact Cond.castable_setVm h _ _
  · exact Cond.castable_setVm h _ _
  · exact Cond.castable_setVm h _ _
  · exact Cond.declares_setVm h _
  · exact Cond.declares_setVm h _
  · exact Cond.declares_setVm h _
theorem xB_warm {s U : State} (hW : s.vm.Alike U.vm) (hZ : ∀ w ∈ xB, va_Nw w s) : ∀ w ∈ xB, va_Nw w U := fun w hw => va_tabs (xB_tab w hw) (rfl : (s.setVm U.vm).vm = U.vm) (by rw [xB_setVm hW w hw]; exact hZ w hw)
theorem xT.use {A : Nat → Prop} {s : State} {args : Array Value} (h : xT A s) : ∀ w ∈ xB, w.before args s = true := fun w hw => va_Nw.use (xB_tab w hw) (h.2.2.1 w hw)
theorem xT.go {A A1 : Nat → Prop} {s U : State} {H : Heap} {locs : List Loc} (h : xT A s) (hW : s.WarmedH U.vm) (hU : U.heap = H) (hS : va_S A s.heap H locs) (hAB : ∀ q, A1 q → A q) : xT A1 U := by
  obtain ⟨h1, h2, h3, h4⟩ := h
  refine ⟨?_, ?_, xB_warm hW.alike h3, nX.moved _ _ hW h4.1, h4.2.warm hW⟩
  · rw [hU]; exact ((h1.moved hW.alike).kept (H1 := H) (fun a ha hn => hS.2.1 a ha hn)).narrow hAB
  · rw [hU]; exact ((h2.moved hW.alike).kept (H1 := H) (fun a ha hn => hS.2.1 a ha hn)).narrow hAB
theorem xT.blind {A : Nat → Prop} {U : State} {g : JFrame} {mk : MethodId} {a : Array Value} (h : xT A U) : xT A (U.calling g mk a) := by
  obtain ⟨h1, h2, h3, h4⟩ := h
  exact ⟨h1.moved (U := U.calling g mk a) (Vm.Alike.refl U.vm), h2.moved (U := U.calling g mk a) (Vm.Alike.refl U.vm), fun w hw => va_Nw.same (u := U) (U := U.calling g mk a) (xB_tab w hw) rfl (h3 w hw), nX.moved U (U.calling g mk a) (State.WarmedH.refl U) h4.1, h4.2.blind⟩
/-- what a method of the class has at hand; the world at a point of the walk -/
def cE (p : Program) (c : Code) (cc : ByteArray) (s : State) (m : MethodId) (args : Array Value) (Ts : List Cond) (D : va_G) (own : String) (tys : List (ClassId × FieldType)) : Prop := p.tables.exec = Jvm.exec ∧ c.code = cc ∧ (∀ w ∈ Ts, w.before args s = true) ∧ s.vm.findClass own = some m.cls ∧ va_K D vwCl tys s
def cG (D : va_G) (ad : Nat → Nat) (N : Nat) (A : Nat → Prop) (H0 H : Heap) (locs : List Loc) (S : Nat → va_E) : Prop := va_P D vwCl (cW ad N S) H ∧ va_D A (cW ad N S) ∧ va_S A H0 H locs
abbrev cB (D : va_G) (tys : List (ClassId × FieldType)) (ad : Nat → Nat) (N : Nat) (S : Nat → va_E) (sz : Nat) : State → Prop := fun U => U.heap.size = sz ∧ va_P D vwCl (cW ad N S) U.heap ∧ va_K D vwCl tys U ∧ va_D (fun _ => True) (cW ad N S) ∧ xT (va_A (cW ad N S) sz) U
abbrev cAt (D : va_G) (tys : List (ClassId × FieldType)) (ad : Nat → Nat) (N : Nat) (A : Nat → Prop) (S : Nat → va_E) (t : State) : Prop := va_P D vwCl (cW ad N S) t.heap ∧ va_K D vwCl tys t ∧ va_D A (cW ad N S)
section CWR
variable {p : Program} {l : Launch} {e : Env} {R : Room} {s : State} {m : MethodId} {args : Array Value} {below : List Frame} {meth : Method} {c : Code} {H : Heap} {locs : List Loc} {cells slots : Nat} {Q : State → Prop}
variable {cc : ByteArray} {pc : Nat} {ls : Array Slot} {rest : List Value} {D : va_G} {A : Nat → Prop} {H0 : Heap} {Ts : List Cond} {tys : List (ClassId × FieldType)} {ad : Nat → Nat} {N : Nat} {S : Nat → va_E} {own : String}
theorem c_get (E : cE p c cc s m args Ts D own tys) (G : cG D ad N A H0 H locs S) (q k : Nat) {ref C : String} {T : u_T} {nf ci idx : Nat} {fs : List Value} {v : Value} (hq : q < N) (hS : S q = .inr (ci, fs)) (hc : vwCl[ci]? = some (C, T, nf)) (hin : ∀ w ∈ u_ws C T nf, w ∈ Ts) (hk : k < nf) (hl : Cond.fieldLink own idx ref (T k).2.1 (T k).2.2.1 ∈ Ts) (he : (T k).1 = ref) (hv : fs[k]? = some v) (hdg : decode cc pc = .ok (.getfield idx, 3)) (kk : W p l e R s m args below meth c H locs cells slots Q (F0 m (pc + 3) ls (v :: rest))) : W p l e R s m args below meth c H locs cells slots Q (F0 m pc ls (.ref (ad q) :: rest)) :=
  va_get (ref := ref) (own := own) E.1 E.2.1 E.2.2.1 hin E.2.2.2.1 E.2.2.2.2 G.1 q (cW_e hq hS) hc k hk (E.2.2.1 _ hl) (fun _ h => by rw [he] at h; exact h) hv hdg kk
theorem c_put (E : cE p c cc s m args Ts D own tys) (G : cG D ad N A H0 H locs S) (q k : Nat) {ref C : String} {T : u_T} {nf ci idx : Nat} {fs : List Value} {v : Value} (hq : q < N) (hS : S q = .inr (ci, fs)) (hc : vwCl[ci]? = some (C, T, nf)) (hin : ∀ w ∈ u_ws C T nf, w ∈ Ts) (ty0 : Nat → FieldType) (hty : ∀ k, k < nf → parseFieldDescriptor (T k).2.2.1 = some (ty0 k)) (hnm : ∀ a, a < nf → ∀ b, b < nf → a ≠ b → (T a).2.1 ≠ (T b).2.1) (hk : k < nf) (hl : Cond.fieldLink own idx ref (T k).2.1 (T k).2.2.1 ∈ Ts) {ty : FieldType} (he : (T k).1 = ref ∧ (T k).2.2.2 = false ∧ parseFieldDescriptor (T k).2.2.1 = some ty) (hn : narrow ty v = v) (hf : fits ty v = true) (hlen : k < fs.length) (hdg : decode cc pc = .ok (.putfield idx, 3)) (kk : ∀ (H1 : Heap) (locs1 : List Loc), cG D ad N A H0 H1 locs1 (va_up S q (.inr (ci, fs.set k v))) → W p l e R s m args below meth c H1 locs1 cells slots Q (F0 m (pc + 3) ls rest)) : W p l e R s m args below meth c H locs cells slots Q (F0 m pc ls (v :: .ref (ad q) :: rest)) :=
  va_put (ref := ref) (own := own) E.1 E.2.1 E.2.2.1 hin ty0 hty hnm E.2.2.2.1 E.2.2.2.2 G.1 G.2.1 G.2.2 q (cW_e hq hS) hc k hk (E.2.2.1 _ hl) (fun _ h => by rw [he.1] at h; exact h) he.2.1 he.2.2 hn hf hlen hdg (fun H1 locs1 h1 h2 h3 => kk H1 locs1 ⟨by rw [← cW_set hq]; exact h1, by rw [← cW_set hq]; exact h2, h3⟩)
theorem c_iald (E : cE p c cc s m args Ts D own tys) (G : cG D ad N A H0 H locs S) (q t0 : Nat) {cA : ClassId} {n k : Nat} {f : Nat → Int32} {i : Int32} (hq : q < N) (hS : S q = .inl (cA, n, .inl f)) (ht : tys[t0]? = some (cA, .int)) (hi : i = nI k) (hk : k < n) (hn : n < 2 ^ 31) (hdg : decode cc pc = .ok (.iaload, 1)) (kk : W p l e R s m args below meth c H locs cells slots Q (F0 m (pc + 1) ls (.int (f k) :: rest))) : W p l e R s m args below meth c H locs cells slots Q (F0 m pc ls (.int i :: .ref (ad q) :: rest)) := by
  subst hi
  refine va_iald E.1 E.2.1 E.2.2.2.2 G.1 q t0 (cW_e hq hS) ht (vp_in_nI hk hn) hdg ?_
  rw [nI_clamp (Nat.lt_trans hk hn)]
  exact kk
theorem c_zald (E : cE p c cc s m args Ts D own tys) (G : cG D ad N A H0 H locs S) (q t0 : Nat) {cA : ClassId} {n k : Nat} {f : Nat → Int32} {i : Int32} (hq : q < N) (hS : S q = .inl (cA, n, .inl f)) (ht : tys[t0]? = some (cA, .boolean)) (hi : i = nI k) (hk : k < n) (hn : n < 2 ^ 31) (hdg : decode cc pc = .ok (.baload, 1)) (kk : W p l e R s m args below meth c H locs cells slots Q (F0 m (pc + 1) ls (.int (f k) :: rest))) : W p l e R s m args below meth c H locs cells slots Q (F0 m pc ls (.int i :: .ref (ad q) :: rest)) := by
  subst hi
  refine va_zald E.1 E.2.1 E.2.2.2.2 G.1 q t0 (cW_e hq hS) ht (vp_in_nI hk hn) hdg ?_
  rw [nI_clamp (Nat.lt_trans hk hn)]
  exact kk
theorem c_lald (E : cE p c cc s m args Ts D own tys) (G : cG D ad N A H0 H locs S) (q t0 : Nat) {cA : ClassId} {n k : Nat} {f : Nat → Int64} {i : Int32} (hq : q < N) (hS : S q = .inl (cA, n, .inr (.inl f))) (ht : tys[t0]? = some (cA, .long)) (hi : i = nI k) (hk : k < n) (hn : n < 2 ^ 31) (hdg : decode cc pc = .ok (.laload, 1)) (kk : W p l e R s m args below meth c H locs cells slots Q (F0 m (pc + 1) ls (.long (f k) :: rest))) : W p l e R s m args below meth c H locs cells slots Q (F0 m pc ls (.int i :: .ref (ad q) :: rest)) := by
  subst hi
  refine va_lald E.1 E.2.1 E.2.2.2.2 G.1 q t0 (cW_e hq hS) ht (vp_in_nI hk hn) hdg ?_
  rw [nI_clamp (Nat.lt_trans hk hn)]
  exact kk
theorem c_aldq (E : cE p c cc s m args Ts D own tys) (G : cG D ad N A H0 H locs S) (q t0 : Nat) {cA : ClassId} {C : String} {n k : Nat} {f : Nat → Option Nat} {i : Int32} {v : Value} (hq : q < N) (hS : S q = .inl (cA, n, .inr (.inr (.inr (.inr f))))) (ht : tys[t0]? = some (cA, .object C)) (hi : i = nI k) (hk : k < n) (hn : n < 2 ^ 31) (hv : va_rf (f k) = v) (hdg : decode cc pc = .ok (.aaload, 1)) (kk : W p l e R s m args below meth c H locs cells slots Q (F0 m (pc + 1) ls (v :: rest))) : W p l e R s m args below meth c H locs cells slots Q (F0 m pc ls (.int i :: .ref (ad q) :: rest)) := by
  subst hi
  subst hv
  refine va_aldq E.1 E.2.1 E.2.2.2.2 G.1 q t0 (cW_e hq hS) ht (vp_in_nI hk hn) hdg ?_
  rw [nI_clamp (Nat.lt_trans hk hn)]
  exact kk
theorem c_iast (E : cE p c cc s m args Ts D own tys) (G : cG D ad N A H0 H locs S) (q t0 : Nat) {cA : ClassId} {n k : Nat} {f : Nat → Int32} {i : Int32} {v : Int32} (hq : q < N) (hS : S q = .inl (cA, n, .inl (f))) (ht : tys[t0]? = some (cA, .int)) (hi : i = nI k) (hk : k < n) (hn : n < 2 ^ 31) (hdg : decode cc pc = .ok (.iastore, 1)) (kk : ∀ (H1 : Heap) (locs1 : List Loc), cG D ad N A H0 H1 locs1 (va_up S q (.inl (cA, n, .inl (upd f k v)))) → W p l e R s m args below meth c H1 locs1 cells slots Q (F0 m (pc + 1) ls rest)) : W p l e R s m args below meth c H locs cells slots Q (F0 m pc ls (.int v :: .int i :: .ref (ad q) :: rest)) := by
  subst hi
  refine va_iast E.1 E.2.1 E.2.2.2.2 G.1 G.2.1 G.2.2 q t0 (cW_e hq hS) ht (vp_in_nI hk hn) hdg (fun H1 locs1 h1 h2 h3 => kk H1 locs1 ?_)
  rw [nI_clamp (Nat.lt_trans hk hn), cW_set hq] at h1 h2
  exact ⟨h1, h2, h3⟩
theorem c_last (E : cE p c cc s m args Ts D own tys) (G : cG D ad N A H0 H locs S) (q t0 : Nat) {cA : ClassId} {n k : Nat} {f : Nat → Int64} {i : Int32} {v : Int64} (hq : q < N) (hS : S q = .inl (cA, n, .inr (.inl (f)))) (ht : tys[t0]? = some (cA, .long)) (hi : i = nI k) (hk : k < n) (hn : n < 2 ^ 31) (hdg : decode cc pc = .ok (.lastore, 1)) (kk : ∀ (H1 : Heap) (locs1 : List Loc), cG D ad N A H0 H1 locs1 (va_up S q (.inl (cA, n, .inr (.inl (vp_updL f k v))))) → W p l e R s m args below meth c H1 locs1 cells slots Q (F0 m (pc + 1) ls rest)) : W p l e R s m args below meth c H locs cells slots Q (F0 m pc ls (.long v :: .int i :: .ref (ad q) :: rest)) := by
  subst hi
  refine va_last E.1 E.2.1 E.2.2.2.2 G.1 G.2.1 G.2.2 q t0 (cW_e hq hS) ht (vp_in_nI hk hn) hdg (fun H1 locs1 h1 h2 h3 => kk H1 locs1 ?_)
  rw [nI_clamp (Nat.lt_trans hk hn), cW_set hq] at h1 h2
  exact ⟨h1, h2, h3⟩
theorem c_zast (E : cE p c cc s m args Ts D own tys) (G : cG D ad N A H0 H locs S) (q t0 : Nat) {cA : ClassId} {n k : Nat} {f : Nat → Int32} {i v : Int32} (hq : q < N) (hS : S q = .inl (cA, n, .inl f)) (ht : tys[t0]? = some (cA, .boolean)) (hi : i = nI k) (hk : k < n) (hn : n < 2 ^ 31) (hv : vp_nar .boolean v = v) (hdg : decode cc pc = .ok (.bastore, 1)) (kk : ∀ (H1 : Heap) (locs1 : List Loc), cG D ad N A H0 H1 locs1 (va_up S q (.inl (cA, n, .inl (upd f k v)))) → W p l e R s m args below meth c H1 locs1 cells slots Q (F0 m (pc + 1) ls rest)) : W p l e R s m args below meth c H locs cells slots Q (F0 m pc ls (.int v :: .int i :: .ref (ad q) :: rest)) := by
  subst hi
  refine va_zast E.1 E.2.1 E.2.2.2.2 G.1 G.2.1 G.2.2 q t0 (cW_e hq hS) ht (vp_in_nI hk hn) hdg (fun H1 locs1 h1 h2 h3 => kk H1 locs1 ?_)
  rw [nI_clamp (Nat.lt_trans hk hn), cW_set hq, hv] at h1 h2
  exact ⟨h1, h2, h3⟩
end CWR
/-- at a throw of the method's own: the world is as it was -/
theorem c_thrown {D : va_G} {tys : List (ClassId × FieldType)} {ad : Nat → Nat} {N : Nat} {S : Nat → va_E} {A : Nat → Prop} {s t : State} {H : Heap} {locs : List Loc} (G : cG D ad N A s.heap H locs S) (hK : va_K D vwCl tys s) (hvm : s.vm.Alike t.vm) (h1 : H.size ≤ t.heap.size) (h2 : ∀ q, q < H.size → t.heap[q]? = H[q]?) : cAt D tys ad N A S t ∧ va_F A s t :=
  ⟨⟨G.1.kept (fun k x hx => h2 x.1 ((G.1 k x hx).lt)), va_K.moved hvm hK, G.2.1⟩, Nat.le_trans G.2.2.1 h1, fun q hq hn => (h2 q (Nat.lt_of_lt_of_le hq G.2.2.1)).trans (G.2.2.2.1 q hq hn)⟩