/-! ===== making cells ===== -/
def cat {α : Type} (N : Nat) (f g : Nat → α) : Nat → α := fun n => bif Nat.blt n N then f n else g (n - N)
theorem cat_lo {α : Type} {N n : Nat} {f g : Nat → α} (h : n < N) : cat N f g n = f n := by
  have e : Nat.blt n N = true := Nat.ble_eq_true_of_le h
  unfold cat
  rw [e]
  rfl
theorem cat_hi {α : Type} {N n : Nat} {f g : Nat → α} (h : N ≤ n) : cat N f g n = g (n - N) := by
  have e : Nat.blt n N = false := by
    cases h9 : Nat.blt n N with
    | false => rfl
    | true => exact absurd (Nat.le_of_ble_eq_true h9) (Nat.not_succ_le_self n ∘ fun q => Nat.le_trans q h)
  unfold cat
  rw [e]
  rfl
theorem cW_cat {a b : Nat → Nat} {N M : Nat} {S T : Nat → va_E} : cW a N S ++ cW b M T = cW (cat N a b) (N + M) (cat N S T) := by
  refine List.ext_getElem? (fun i => ?_)
  by_cases h : i < N
  · rw [List.getElem?_append_left (by rw [cW_len]; exact h), cW_at h, cW_at (Nat.lt_of_lt_of_le h (Nat.le_add_right _ _)), cat_lo h, cat_lo h]
  · have h1 : N ≤ i := Nat.not_lt.mp h
    rw [List.getElem?_append_right (by rw [cW_len]; exact h1), cW_len]
    by_cases h2 : i < N + M
    · rw [cW_at (show i - N < M by omega), cW_at h2, cat_hi h1, cat_hi h1]
    · rw [cW_none (show M ≤ i - N by omega), cW_none (Nat.not_lt.mp h2)]
theorem cG_push {D : va_G} {ad : Nat → Nat} {N : Nat} {A : Nat → Prop} {H0 H1 : Heap} {locs : List Loc} {S : Nat → va_E} {q : Nat} {e : va_E} (h1 : va_P D vwCl (cW ad N S ++ [(q, e)]) H1) (h2 : va_D A (cW ad N S ++ [(q, e)])) (h3 : va_S A H0 H1 locs) : cG D (cat N ad (fun _ => q)) (N + 1) A H0 H1 locs (cat N S (fun _ => e)) := by
  have e1 : cW ad N S ++ [(q, e)] = cW (cat N ad (fun _ => q)) (N + 1) (cat N S (fun _ => e)) := cW_cat (b := fun _ => q) (M := 1) (T := fun _ => e)
  exact ⟨by rw [← e1]; exact h1, by rw [← e1]; exact h2, h3⟩
theorem va_nd_of : ∀ l : List Nat, l.Nodup → va_nd l = true
  | [], _ => rfl
  | a :: l, h => by
    have h1 := List.nodup_cons.mp h
    show (decide (a ∉ l) && va_nd l) = true
    rw [va_nd_of l h1.2, Bool.and_true]
    exact decide_eq_true h1.1
theorem va_nd_range (N : Nat) : va_nd (List.range N) = true := va_nd_of _ List.nodup_range
theorem cG_sub {D : va_G} {ad : Nat → Nat} {N M : Nat} {A : Nat → Prop} {H0 H : Heap} {locs : List Loc} {S T T1 : Nat → va_E} (h : ∀ n, n < M → T n = T1 n) (G : cG D ad (N + M) A H0 H locs (cat N S T)) : cG D ad (N + M) A H0 H locs (cat N S T1) := by
  have e : cW ad (N + M) (cat N S T) = cW ad (N + M) (cat N S T1) := cW_congr (fun n hn => by
    by_cases h1 : n < N
    · rw [cat_lo h1, cat_lo h1]
    · have h2 : N ≤ n := Nat.not_lt.mp h1
      rw [cat_hi h2, cat_hi h2, h (n - N) (by omega)])
  exact ⟨by rw [← e]; exact G.1, by rw [← e]; exact G.2.1, G.2.2⟩
abbrev CT (cI cJ cZ cMic cSrc cSt cAI cAJ : ClassId) : List (ClassId × FieldType) := [(cI, .int), (cJ, .long), (cZ, .boolean), (cMic, .object "AcousticCamera$Mic"), (cSrc, .object "AcousticCamera$Source"), (cSt, .object "AcousticCamera$State"), (cAI, .array .int), (cAJ, .array .long)]
section CNR
variable {p : Program} {l : Launch} {e : Env} {R : Room} {s : State} {m : MethodId} {args : Array Value} {below : List Frame} {meth : Method} {c : Code} {H : Heap} {locs : List Loc} {cells slots : Nat} {Q : State → Prop}
variable {cc : ByteArray} {pc : Nat} {ls : Array Slot} {rest : List Value} {D : va_G} {A : Nat → Prop} {H0 : Heap} {Ts : List Cond} {tys : List (ClassId × FieldType)} {ad : Nat → Nat} {N : Nat} {S : Nat → va_E} {own : String}
theorem n_new (E : cE p c cc s m args Ts D own tys) (G : cG D ad N A H0 H locs S) (hA : ∀ q, H0.size ≤ q → A q) {C : String} {T : u_T} {nf ci idx : Nat} {fs : List Value} (hin : ∀ w ∈ u_ws C T nf, w ∈ Ts) (ty0 : Nat → FieldType) (hty : ∀ k, k < nf → parseFieldDescriptor (T k).2.2.1 = some (ty0 k)) (h1 : Cond.classLink own idx C ∈ Ts) (h2 : Cond.instantiable C nf ∈ Ts) (h3 : Cond.initialized C ∈ Ts) (hc : vwCl[ci]? = some (C, T, nf)) (hfs : ∀ j, j < nf → defaultValue (ty0 j) = vp_V fs j) (hcells : cells + 1 ≤ R.cells) (hslots : slots + nf ≤ R.slots) (hdg : decode cc pc = .ok (.new idx, 3)) (kk : ∀ (q : Nat) (H1 : Heap), cG D (cat N ad (fun _ => q)) (N + 1) A H0 H1 locs (cat N S (fun _ => .inr (ci, fs))) → W p l e R s m args below meth c H1 locs (cells + 1) (slots + nf) Q (F0 m (pc + 3) ls (.ref q :: rest))) : W p l e R s m args below meth c H locs cells slots Q (F0 m pc ls rest) :=
  va_new E.1 E.2.1 E.2.2.1 hin ty0 hty E.2.2.2.1 (E.2.2.1 _ h1) (E.2.2.1 _ h2) (E.2.2.1 _ h3) E.2.2.2.2 G.1 G.2.1 G.2.2 hA hc hfs hcells hslots hdg (fun q H1 g1 g2 g3 => kk q H1 (cG_push g1 g2 g3))
theorem n_newi (E : cE p c cc s m args Ts D own tys) (G : cG D ad N A H0 H locs S) (hA : ∀ q, H0.size ≤ q → A q) (t0 : Nat) {cA : ClassId} {n : Int32} {K : Nat} (h1 : Cond.arrayClass .int ∈ Ts) (ht : tys[t0]? = some (cA, .int)) (hn : n = nI K) (hK : K ≤ 100000) (hcells : cells + 1 ≤ R.cells) (hslots : slots + K ≤ R.slots) (hdg : decode cc pc = .ok (.newarray .int, 2)) (kk : ∀ (q : Nat) (H1 : Heap), cG D (cat N ad (fun _ => q)) (N + 1) A H0 H1 locs (cat N S (fun _ => .inl (cA, K, .inl (fun _ => 0)))) → W p l e R s m args below meth c H1 locs (cells + 1) (slots + K) Q (F0 m (pc + 2) ls (.ref q :: rest))) : W p l e R s m args below meth c H locs cells slots Q (F0 m pc ls (.int n :: rest)) := by
  subst hn
  refine va_newa (atype := .int) (ty := .int) E.1 E.2.1 (E.2.2.1 _ h1) rfl E.2.2.2.2 G.1 G.2.1 G.2.2 hA (a0 := (K, .inl (fun _ => 0))) (fun _ => rfl) (nI_pos (by omega)) (nI_clamp (by omega)) (by show K * 4 ≤ 536870912; omega) hcells hslots hdg (fun q cB H1 k1 g1 g2 g3 => ?_)
  have e : cB = cA := Option.some.inj ((va_nm_int (k1.2 tys.length (cB, .int) (by rw [List.getElem?_append_right (Nat.le_refl _), Nat.sub_self]; rfl)).2).symm.trans (va_nm_int (E.2.2.2.2.2 t0 _ ht).2))
  subst e
  exact kk q H1 (cG_push g1 g2 g3)
theorem n_newl (E : cE p c cc s m args Ts D own tys) (G : cG D ad N A H0 H locs S) (hA : ∀ q, H0.size ≤ q → A q) (t0 : Nat) {cA : ClassId} {n : Int32} {K : Nat} (h1 : Cond.arrayClass .long ∈ Ts) (ht : tys[t0]? = some (cA, .long)) (hn : n = nI K) (hK : K ≤ 100000) (hcells : cells + 1 ≤ R.cells) (hslots : slots + K ≤ R.slots) (hdg : decode cc pc = .ok (.newarray .long, 2)) (kk : ∀ (q : Nat) (H1 : Heap), cG D (cat N ad (fun _ => q)) (N + 1) A H0 H1 locs (cat N S (fun _ => .inl (cA, K, .inr (.inl (fun _ => 0))))) → W p l e R s m args below meth c H1 locs (cells + 1) (slots + K) Q (F0 m (pc + 2) ls (.ref q :: rest))) : W p l e R s m args below meth c H locs cells slots Q (F0 m pc ls (.int n :: rest)) := by
  subst hn
  refine va_newa (atype := .long) (ty := .long) E.1 E.2.1 (E.2.2.1 _ h1) rfl E.2.2.2.2 G.1 G.2.1 G.2.2 hA (a0 := (K, .inr (.inl (fun _ => 0)))) (fun _ => rfl) (nI_pos (by omega)) (nI_clamp (by omega)) (by show K * 8 ≤ 536870912; omega) hcells hslots hdg (fun q cB H1 k1 g1 g2 g3 => ?_)
  have e : cB = cA := Option.some.inj ((va_nm_long (k1.2 tys.length (cB, .long) (by rw [List.getElem?_append_right (Nat.le_refl _), Nat.sub_self]; rfl)).2).symm.trans (va_nm_long (E.2.2.2.2.2 t0 _ ht).2))
  subst e
  exact kk q H1 (cG_push g1 g2 g3)
theorem n_newz (E : cE p c cc s m args Ts D own tys) (G : cG D ad N A H0 H locs S) (hA : ∀ q, H0.size ≤ q → A q) (t0 : Nat) {cA : ClassId} {n : Int32} {K : Nat} (h1 : Cond.arrayClass .boolean ∈ Ts) (ht : tys[t0]? = some (cA, .boolean)) (hn : n = nI K) (hK : K ≤ 100000) (hcells : cells + 1 ≤ R.cells) (hslots : slots + K ≤ R.slots) (hdg : decode cc pc = .ok (.newarray .boolean, 2)) (kk : ∀ (q : Nat) (H1 : Heap), cG D (cat N ad (fun _ => q)) (N + 1) A H0 H1 locs (cat N S (fun _ => .inl (cA, K, .inl (fun _ => 0)))) → W p l e R s m args below meth c H1 locs (cells + 1) (slots + K) Q (F0 m (pc + 2) ls (.ref q :: rest))) : W p l e R s m args below meth c H locs cells slots Q (F0 m pc ls (.int n :: rest)) := by
  subst hn
  refine va_newa (atype := .boolean) (ty := .boolean) E.1 E.2.1 (E.2.2.1 _ h1) rfl E.2.2.2.2 G.1 G.2.1 G.2.2 hA (a0 := (K, .inl (fun _ => 0))) (fun _ => rfl) (nI_pos (by omega)) (nI_clamp (by omega)) (by show K * 1 ≤ 536870912; omega) hcells hslots hdg (fun q cB H1 k1 g1 g2 g3 => ?_)
  have e : cB = cA := Option.some.inj ((va_nm_boolean (k1.2 tys.length (cB, .boolean) (by rw [List.getElem?_append_right (Nat.le_refl _), Nat.sub_self]; rfl)).2).symm.trans (va_nm_boolean (E.2.2.2.2.2 t0 _ ht).2))
  subst e
  exact kk q H1 (cG_push g1 g2 g3)
theorem n_newq (E : cE p c cc s m args Ts D own tys) (G : cG D ad N A H0 H locs S) (hA : ∀ q, H0.size ≤ q → A q) (t0 : Nat) {cA : ClassId} {C nm : String} {idx : Nat} {n : Int32} {K : Nat} (h1 : Cond.classLink own idx C ∈ Ts) (ho : va_AO C s) (e0 : "[" ++ (FieldType.object C).toString = nm) (ht : tys[t0]? = some (cA, .object C)) (hn : n = nI K) (hK : K ≤ 100000) (hcells : cells + 1 ≤ R.cells) (hslots : slots + K ≤ R.slots) (hdg : decode cc pc = .ok (.anewarray idx, 3)) (kk : ∀ (q : Nat) (H1 : Heap), cG D (cat N ad (fun _ => q)) (N + 1) A H0 H1 locs (cat N S (fun _ => .inl (cA, K, .inr (.inr (.inr (.inr (fun _ => none))))))) → W p l e R s m args below meth c H1 locs (cells + 1) (slots + K) Q (F0 m (pc + 3) ls (.ref q :: rest))) : W p l e R s m args below meth c H locs cells slots Q (F0 m pc ls (.int n :: rest)) := by
  subst hn
  refine va_newq E.1 E.2.1 E.2.2.2.1 (E.2.2.1 _ h1) ho E.2.2.2.2 G.1 G.2.1 G.2.2 hA (nI_pos (by omega)) (nI_clamp (by omega)) (by omega) hcells hslots hdg (fun q cB H1 k1 g1 g2 g3 => ?_)
  have e : cB = cA := Option.some.inj ((va_nmO (k1.2 tys.length (cB, .object C) (by rw [List.getElem?_append_right (Nat.le_refl _), Nat.sub_self]; rfl)).2 e0).symm.trans (va_nmO (E.2.2.2.2.2 t0 _ ht).2 e0))
  subst e
  exact kk q H1 (cG_push g1 g2 g3)
theorem n_putF (E : cE p c cc s m args Ts D own tys) (G : cG D ad N A H0 H locs S) (q k a : Nat) {ref C : String} {T : u_T} {nf ci idx : Nat} {fs fs1 : List Value} {v : Value} (hq : q < N) (ha : ad q = a) (hS : S q = .inr (ci, fs)) (hc : vwCl[ci]? = some (C, T, nf)) (hin : ∀ w ∈ u_ws C T nf, w ∈ Ts) (ty0 : Nat → FieldType) (hty : ∀ k, k < nf → parseFieldDescriptor (T k).2.2.1 = some (ty0 k)) (hnm : ∀ a, a < nf → ∀ b, b < nf → a ≠ b → (T a).2.1 ≠ (T b).2.1) (hk : k < nf) (hl : Cond.fieldLink own idx ref (T k).2.1 (T k).2.2.1 ∈ Ts) {ty : FieldType} (he : (T k).1 = ref ∧ (T k).2.2.2 = true ∧ parseFieldDescriptor (T k).2.2.1 = some ty) (hin2 : meth.name = "<init>") (hdecl : (T k).1 = own) (hn : narrow ty v = v) (hf : fits ty v = true) (hlen : k < fs.length) (hfs : fs.set k v = fs1) (hdg : decode cc pc = .ok (.putfield idx, 3)) (kk : ∀ (H1 : Heap) (locs1 : List Loc), cG D ad N A H0 H1 locs1 (va_up S q (.inr (ci, fs1))) → W p l e R s m args below meth c H1 locs1 cells slots Q (F0 m (pc + 3) ls rest)) : W p l e R s m args below meth c H locs cells slots Q (F0 m pc ls (v :: .ref a :: rest)) := by
  subst ha
  subst hfs
  exact va_putF (ref := ref) (own := own) E.1 E.2.1 E.2.2.1 hin ty0 hty hnm E.2.2.2.1 E.2.2.2.2 G.1 G.2.1 G.2.2 q (cW_e hq hS) hc k hk (E.2.2.1 _ hl) (fun _ h => by rw [he.1] at h; exact h) he.2.1 hin2 hdecl he.2.2 hn hf hlen hdg (fun H1 locs1 h1 h2 h3 => kk H1 locs1 ⟨by rw [← cW_set hq]; exact h1, by rw [← cW_set hq]; exact h2, h3⟩)
theorem n_put (E : cE p c cc s m args Ts D own tys) (G : cG D ad N A H0 H locs S) (q k a : Nat) {ref C : String} {T : u_T} {nf ci idx : Nat} {fs fs1 : List Value} {v : Value} (hq : q < N) (ha : ad q = a) (hS : S q = .inr (ci, fs)) (hc : vwCl[ci]? = some (C, T, nf)) (hin : ∀ w ∈ u_ws C T nf, w ∈ Ts) (ty0 : Nat → FieldType) (hty : ∀ k, k < nf → parseFieldDescriptor (T k).2.2.1 = some (ty0 k)) (hnm : ∀ a, a < nf → ∀ b, b < nf → a ≠ b → (T a).2.1 ≠ (T b).2.1) (hk : k < nf) (hl : Cond.fieldLink own idx ref (T k).2.1 (T k).2.2.1 ∈ Ts) {ty : FieldType} (he : (T k).1 = ref ∧ (T k).2.2.2 = false ∧ parseFieldDescriptor (T k).2.2.1 = some ty) (hn : narrow ty v = v) (hf : fits ty v = true) (hlen : k < fs.length) (hfs : fs.set k v = fs1) (hdg : decode cc pc = .ok (.putfield idx, 3)) (kk : ∀ (H1 : Heap) (locs1 : List Loc), cG D ad N A H0 H1 locs1 (va_up S q (.inr (ci, fs1))) → W p l e R s m args below meth c H1 locs1 cells slots Q (F0 m (pc + 3) ls rest)) : W p l e R s m args below meth c H locs cells slots Q (F0 m pc ls (v :: .ref a :: rest)) := by
  subst ha
  subst hfs
  exact va_put (ref := ref) (own := own) E.1 E.2.1 E.2.2.1 hin ty0 hty hnm E.2.2.2.1 E.2.2.2.2 G.1 G.2.1 G.2.2 q (cW_e hq hS) hc k hk (E.2.2.1 _ hl) (fun _ h => by rw [he.1] at h; exact h) he.2.1 he.2.2 hn hf hlen hdg (fun H1 locs1 h1 h2 h3 => kk H1 locs1 ⟨by rw [← cW_set hq]; exact h1, by rw [← cW_set hq]; exact h2, h3⟩)
/-- the state of the cells behind a constructor: cells M of them, the object itself first -/
abbrev nB (D : va_G) (tys : List (ClassId × FieldType)) (xs : State → Prop) (h ci : Nat) (fs : List Value) (sz : Nat) : State → Prop := fun U => U.heap.size = sz ∧ va_P D vwCl (cW (fun _ => h) 1 (fun _ => .inr (ci, fs))) U.heap ∧ va_K D vwCl tys U ∧ va_D (fun _ => True) (cW (fun _ => h) 1 (fun _ => .inr (ci, fs))) ∧ xs U
abbrev cNA (l : Launch) (y : MethodName) (ws : List Cond) (fr lo mc ms : Nat) (D : va_G) (tys : List (ClassId × FieldType)) (xs : State → Prop) (ci : Nat) (fs : List Value) (M : Nat) (As : List Value) (post : (Nat → Nat) → (Nat → va_E) → Prop) : Prop := ∀ h sz : Nat, Met l y ws { frames := fr, cells := mc, slots := ms, locals := lo } (va_Pc (.ref h :: As) (nB D tys xs h ci fs sz)) (va_Qv (fun (u : (Nat → Nat) × (Nat → va_E)) => u.1 0 = h ∧ post u.1 u.2) (fun u t => va_P D vwCl (cW u.1 M u.2) t.heap ∧ va_K D vwCl tys t ∧ va_D (va_A (cW (fun _ => h) 1 (fun _ => .inr (ci, fs))) sz) (cW u.1 M u.2)) (va_A (cW (fun _ => h) 1 (fun _ => .inr (ci, fs))) sz)) mc ms (va_A (cW (fun _ => h) 1 (fun _ => .inr (ci, fs))) sz)
abbrev cN (l : Launch) (y : MethodName) (ws : List Cond) (fr lo mc ms : Nat) (D : va_G) (tys : List (ClassId × FieldType)) (xs : State → Prop) (ci : Nat) (fs : List Value) (M : Nat) (post : (Nat → Nat) → (Nat → va_E) → Prop) : Prop := cNA l y ws fr lo mc ms D tys xs ci fs M [] post
/-- the call of a constructor on the newest cell -/
theorem n_init {y : MethodName} {bytes : ByteArray} {maxL nL index fr lo mc ms : Nat} {ws : List Cond} {xs : State → Prop} {ci : Nat} {fs : List Value} {M h : Nat} {post : (Nat → Nat) → (Nat → va_E) → Prop} (E : cE p c cc s m args Ts D own tys) (G : cG D ad (N + 1) A H0 H locs S) (hA : ∀ q, H0.size ≤ q → A q) (hxs : xs s) (hxv : ∀ u U : State, u.WarmedH U.vm → xs u → xs U) (hml : c.maxLocals = nL) (hM : cN l y ws fr lo mc ms D tys xs ci fs M post) (cw : CallB R s args own index y bytes maxL none ws { frames := fr, cells := mc, slots := ms, locals := lo } mc ms 0 ∧ y.name = "<init>" ∧ (Cond.instanceMethod y).before args s = true) (ha : ad N = h) (hSN : S N = .inr (ci, fs)) (hsz : ls.size = nL) (hW : 2 * (F0 m pc ls (.ref h :: rest)).monitorRoom + (rest.map fun v => v.category).sum ≤ 8) (hdg : decode cc pc = .ok (.invokespecial index, 3)) (hf : cells + mc ≤ R.cells ∧ slots + ms ≤ R.slots)
    (kk : ∀ (b : Nat → Nat) (T : Nat → va_E) (H1 : Heap) (locs1 : List Loc), b 0 = h → post b T → cG D (cat N ad b) (N + M) A H0 H1 locs1 (cat N S T) → W p l e R s m args below meth c H1 locs1 (cells + mc) (slots + ms) Q (F0 m (pc + 3) ls rest)) : W p l e R s m args below meth c H locs cells slots Q (F0 m pc ls (.ref h :: rest)) := by
  obtain ⟨hx, hb, hts, hown, hK⟩ := E
  obtain ⟨hP, hD, hS⟩ := G
  subst ha
  have hC : [N].map (fun i => (cW ad (N + 1) S)[i]?) = (cW (fun _ => ad N) 1 (fun _ => .inr (ci, fs))).map some := by
    show [(cW ad (N + 1) S)[N]?] = [some (ad N, .inr (ci, fs))]
    rw [cW_e (Nat.lt_succ_self N) hSN]
  have hR : (List.range N).map (fun i => (cW ad (N + 1) S)[i]?) = (cW ad N S).map some := by
    unfold cW
    rw [List.map_map]
    refine List.map_congr_left (fun i hi => ?_)
    exact cW_at (Nat.lt_succ_of_lt (List.mem_range.mp hi))
  have hPc : va_P D vwCl (cW (fun _ => ad N) 1 (fun _ => .inr (ci, fs))) H := hP.sub [N] (by rw [List.filterMap_cons_some (cW_e (Nat.lt_succ_self N) hSN)]; rfl)
  have hDc : va_D (fun _ => True) (cW (fun _ => ad N) 1 (fun _ => .inr (ci, fs))) := (hD.sub [N] (by simp [va_nd]) hC).weaken (fun _ _ _ _ => trivial)
  have hFc := va_free (wc := cW (fun _ => ad N) 1 (fun _ => .inr (ci, fs))) hD hS hA [N] hC
  refine va_callv (va_runI (As := []) (rest := rest) ⟨hx, hb, hml, hown, hts⟩ (hM (ad N) H.size) cw ⟨fun a U g mk q => by obtain ⟨q0, q1, qP, qK, qD, qx⟩ := q; exact ⟨q0, q1, qP, va_K.moved (u := U) (U := U.calling g mk a) (Vm.Alike.refl U.vm) qK, qD, hxv U (U.calling g mk a) (State.WarmedH.refl U) qx⟩, fun U hU hW => ⟨rfl, by rw [hU], by rw [hU]; exact hPc, va_K.moved hW.alike hK, hDc, hxv s U hW hxs⟩⟩ rfl rfl hsz rfl hW hdg hf) hS (fun q _ h => hFc q h) hFc (fun u t H1 locs1 ht hvm hw hB hz1 hk1 hS => ?_)
  obtain ⟨hP1, hK1, hD1⟩ := hB
  rw [ht] at hP1
  obtain ⟨hP2, hD2⟩ := va_join (wr := cW ad N S) (w1 := cW u.1 M u.2) hP hD [N] (List.range N) hC hR (va_nd_range N) (fun i hi h9 => by have := List.mem_range.mp hi; have h8 := List.mem_singleton.mp h9; omega) hk1 hFc hP1 hD1
  rw [cW_cat] at hP2 hD2
  exact kk u.1 u.2 H1 locs1 hw.1 hw.2 ⟨hP2, hD2, hS⟩
/-- .. of a nest mate's -/
theorem n_initN {host : String} {y : MethodName} {bytes : ByteArray} {maxL nL index fr lo mc ms : Nat} {ws : List Cond} {xs : State → Prop} {ci : Nat} {fs : List Value} {M h : Nat} {post : (Nat → Nat) → (Nat → va_E) → Prop} (E : cE p c cc s m args Ts D own tys) (G : cG D ad (N + 1) A H0 H locs S) (hA : ∀ q, H0.size ≤ q → A q) (hxs : xs s) (hxv : ∀ u U : State, u.WarmedH U.vm → xs u → xs U) (hml : c.maxLocals = nL) (hM : cN l y ws fr lo mc ms D tys xs ci fs M post) (cw : va_CN R s args own index y host bytes maxL none ws { frames := fr, cells := mc, slots := ms, locals := lo } mc ms 0 ∧ y.name = "<init>" ∧ (Cond.instanceMethod y).before args s = true) (ha : ad N = h) (hSN : S N = .inr (ci, fs)) (hsz : ls.size = nL) (hW : 2 * (F0 m pc ls (.ref h :: rest)).monitorRoom + (rest.map fun v => v.category).sum ≤ 8) (hdg : decode cc pc = .ok (.invokespecial index, 3)) (hf : cells + mc ≤ R.cells ∧ slots + ms ≤ R.slots)
    (kk : ∀ (b : Nat → Nat) (T : Nat → va_E) (H1 : Heap) (locs1 : List Loc), b 0 = h → post b T → cG D (cat N ad b) (N + M) A H0 H1 locs1 (cat N S T) → W p l e R s m args below meth c H1 locs1 (cells + mc) (slots + ms) Q (F0 m (pc + 3) ls rest)) : W p l e R s m args below meth c H locs cells slots Q (F0 m pc ls (.ref h :: rest)) := by
  obtain ⟨hx, hb, hts, hown, hK⟩ := E
  obtain ⟨hP, hD, hS⟩ := G
  subst ha
  have hC : [N].map (fun i => (cW ad (N + 1) S)[i]?) = (cW (fun _ => ad N) 1 (fun _ => .inr (ci, fs))).map some := by
    show [(cW ad (N + 1) S)[N]?] = [some (ad N, .inr (ci, fs))]
    rw [cW_e (Nat.lt_succ_self N) hSN]
  have hR : (List.range N).map (fun i => (cW ad (N + 1) S)[i]?) = (cW ad N S).map some := by
    unfold cW
    rw [List.map_map]
    refine List.map_congr_left (fun i hi => ?_)
    exact cW_at (Nat.lt_succ_of_lt (List.mem_range.mp hi))
  have hPc : va_P D vwCl (cW (fun _ => ad N) 1 (fun _ => .inr (ci, fs))) H := hP.sub [N] (by rw [List.filterMap_cons_some (cW_e (Nat.lt_succ_self N) hSN)]; rfl)
  have hDc : va_D (fun _ => True) (cW (fun _ => ad N) 1 (fun _ => .inr (ci, fs))) := (hD.sub [N] (by simp [va_nd]) hC).weaken (fun _ _ _ _ => trivial)
  have hFc := va_free (wc := cW (fun _ => ad N) 1 (fun _ => .inr (ci, fs))) hD hS hA [N] hC
  refine va_callv (va_runIN (As := []) (rest := rest) ⟨hx, hb, hml, hown, hts⟩ (hM (ad N) H.size) cw ⟨fun a U g mk q => by obtain ⟨q0, q1, qP, qK, qD, qx⟩ := q; exact ⟨q0, q1, qP, va_K.moved (u := U) (U := U.calling g mk a) (Vm.Alike.refl U.vm) qK, qD, hxv U (U.calling g mk a) (State.WarmedH.refl U) qx⟩, fun U hU hW => ⟨rfl, by rw [hU], by rw [hU]; exact hPc, va_K.moved hW.alike hK, hDc, hxv s U hW hxs⟩⟩ rfl rfl hsz rfl hW hdg hf) hS (fun q _ h => hFc q h) hFc (fun u t H1 locs1 ht hvm hw hB hz1 hk1 hS => ?_)
  obtain ⟨hP1, hK1, hD1⟩ := hB
  rw [ht] at hP1
  obtain ⟨hP2, hD2⟩ := va_join (wr := cW ad N S) (w1 := cW u.1 M u.2) hP hD [N] (List.range N) hC hR (va_nd_range N) (fun i hi h9 => by have := List.mem_range.mp hi; have h8 := List.mem_singleton.mp h9; omega) hk1 hFc hP1 hD1
  rw [cW_cat] at hP2 hD2
  exact kk u.1 u.2 H1 locs1 hw.1 hw.2 ⟨hP2, hD2, hS⟩
/-- the call of a constructor with arguments on the newest cell -/
theorem n_initA {y : MethodName} {bytes : ByteArray} {maxL nL index fr lo mc ms : Nat} {ws : List Cond} {xs : State → Prop} {ci : Nat} {fs : List Value} {M h n : Nat} {As : List Value} {post : (Nat → Nat) → (Nat → va_E) → Prop} (E : cE p c cc s m args Ts D own tys) (G : cG D ad (N + 1) A H0 H locs S) (hA : ∀ q, H0.size ≤ q → A q) (hxs : xs s) (hxv : ∀ u U : State, u.WarmedH U.vm → xs u → xs U) (hml : c.maxLocals = nL) (hM : cNA l y ws fr lo mc ms D tys xs ci fs M As post) (cw : CallB R s args own index y bytes maxL none ws { frames := fr, cells := mc, slots := ms, locals := lo } mc ms n ∧ y.name = "<init>" ∧ (Cond.instanceMethod y).before args s = true) (ha : ad N = h) (hSN : S N = .inr (ci, fs)) (hn : As.length = n) (hsz : ls.size = nL) {st : List Value} (hst : st = As.reverse ++ .ref h :: rest) (hW : 2 * (F0 m pc ls st).monitorRoom + (rest.map fun v => v.category).sum ≤ 8) (hdg : decode cc pc = .ok (.invokespecial index, 3)) (hf : cells + mc ≤ R.cells ∧ slots + ms ≤ R.slots)
    (kk : ∀ (b : Nat → Nat) (T : Nat → va_E) (H1 : Heap) (locs1 : List Loc), b 0 = h → post b T → cG D (cat N ad b) (N + M) A H0 H1 locs1 (cat N S T) → W p l e R s m args below meth c H1 locs1 (cells + mc) (slots + ms) Q (F0 m (pc + 3) ls rest)) : W p l e R s m args below meth c H locs cells slots Q (F0 m pc ls st) := by
  obtain ⟨hx, hb, hts, hown, hK⟩ := E
  obtain ⟨hP, hD, hS⟩ := G
  subst ha
  have hC : [N].map (fun i => (cW ad (N + 1) S)[i]?) = (cW (fun _ => ad N) 1 (fun _ => .inr (ci, fs))).map some := by
    show [(cW ad (N + 1) S)[N]?] = [some (ad N, .inr (ci, fs))]
    rw [cW_e (Nat.lt_succ_self N) hSN]
  have hR : (List.range N).map (fun i => (cW ad (N + 1) S)[i]?) = (cW ad N S).map some := by
    unfold cW
    rw [List.map_map]
    refine List.map_congr_left (fun i hi => ?_)
    exact cW_at (Nat.lt_succ_of_lt (List.mem_range.mp hi))
  have hPc : va_P D vwCl (cW (fun _ => ad N) 1 (fun _ => .inr (ci, fs))) H := hP.sub [N] (by rw [List.filterMap_cons_some (cW_e (Nat.lt_succ_self N) hSN)]; rfl)
  have hDc : va_D (fun _ => True) (cW (fun _ => ad N) 1 (fun _ => .inr (ci, fs))) := (hD.sub [N] (by simp [va_nd]) hC).weaken (fun _ _ _ _ => trivial)
  have hFc := va_free (wc := cW (fun _ => ad N) 1 (fun _ => .inr (ci, fs))) hD hS hA [N] hC
  refine va_callv (va_runI (As := As) (rest := rest) ⟨hx, hb, hml, hown, hts⟩ (hM (ad N) H.size) cw ⟨fun a U g mk q => by obtain ⟨q0, q1, qP, qK, qD, qx⟩ := q; exact ⟨q0, q1, qP, va_K.moved (u := U) (U := U.calling g mk a) (Vm.Alike.refl U.vm) qK, qD, hxv U (U.calling g mk a) (State.WarmedH.refl U) qx⟩, fun U hU hW => ⟨rfl, by rw [hU], by rw [hU]; exact hPc, va_K.moved hW.alike hK, hDc, hxv s U hW hxs⟩⟩ rfl hn hsz hst hW hdg hf) hS (fun q _ h => hFc q h) hFc (fun u t H1 locs1 ht hvm hw hB hz1 hk1 hS => ?_)
  obtain ⟨hP1, hK1, hD1⟩ := hB
  rw [ht] at hP1
  obtain ⟨hP2, hD2⟩ := va_join (wr := cW ad N S) (w1 := cW u.1 M u.2) hP hD [N] (List.range N) hC hR (va_nd_range N) (fun i hi h9 => by have := List.mem_range.mp hi; have h8 := List.mem_singleton.mp h9; omega) hk1 hFc hP1 hD1
  rw [cW_cat] at hP2 hD2
  exact kk u.1 u.2 H1 locs1 hw.1 hw.2 ⟨hP2, hD2, hS⟩
theorem n_astq (E : cE p c cc s m args Ts D own tys) (G : cG D ad N A H0 H locs S) (q t0 qk : Nat) {cA : ClassId} {r : vw_C} {ci n k a v : Nat} {vs : List Value} {f : Nat → Option Nat} {i : Int32} (hq : q < N) (ha : ad q = a) (hS : S q = .inl (cA, n, .inr (.inr (.inr (.inr f))))) (ht : tys[t0]? = some (cA, .object r.1)) (hqk : qk < N) (hv0 : ad qk = v) (hv : S qk = .inr (ci, vs)) (hc : vwCl[ci]? = some r) (hi : i = nI k) (hk : k < n) (hn : n < 2 ^ 31) (hdg : decode cc pc = .ok (.aastore, 1)) (kk : ∀ (H1 : Heap) (locs1 : List Loc), cG D ad N A H0 H1 locs1 (va_up S q (.inl (cA, n, .inr (.inr (.inr (.inr (va_up f k (some v)))))))) → W p l e R s m args below meth c H1 locs1 cells slots Q (F0 m (pc + 1) ls rest)) : W p l e R s m args below meth c H locs cells slots Q (F0 m pc ls (.ref v :: .int i :: .ref a :: rest)) := by
  subst hi
  subst ha
  subst hv0
  refine va_astq E.1 E.2.1 E.2.2.2.2 G.1 G.2.1 G.2.2 q t0 qk ci (cW_e hq hS) ht (cW_e hqk hv) hc (vp_in_nI hk hn) hdg (fun H1 locs1 h1 h2 h3 => kk H1 locs1 ?_)
  rw [nI_clamp (Nat.lt_trans hk hn), cW_set hq] at h1 h2
  exact ⟨h1, h2, h3⟩
theorem n_getr (E : cE p c cc s m args Ts D own tys) (G : cG D ad N A H0 H locs S) (q k a : Nat) {ref C : String} {T : u_T} {nf ci idx : Nat} {fs : List Value} {v : Value} (hq : q < N) (ha : ad q = a) (hS : S q = .inr (ci, fs)) (hc : vwCl[ci]? = some (C, T, nf)) (hin : ∀ w ∈ u_ws C T nf, w ∈ Ts) (hk : k < nf) (hl : Cond.fieldLink own idx ref (T k).2.1 (T k).2.2.1 ∈ Ts) (he : (T k).1 = ref) (hv : fs[k]? = some v) (hdg : decode cc pc = .ok (.getfield idx, 3)) (kk : W p l e R s m args below meth c H locs cells slots Q (F0 m (pc + 3) ls (v :: rest))) : W p l e R s m args below meth c H locs cells slots Q (F0 m pc ls (.ref a :: rest)) := by
  subst ha
  exact c_get E G q k hq hS hc hin hk hl he hv hdg kk
end CNR
section CNG
variable {p : Program} {l : Launch} {e : Env} {R : Room} {s : State} {m : MethodId} {args : Array Value} {below : List Frame} {meth : Method} {c : Code} {H : Heap} {locs : List Loc} {cells slots : Nat} {Q : State → Prop}
variable {cc : ByteArray} {pc : Nat} {ls : Array Slot} {rest : List Value} {D : va_G} {A : Nat → Prop} {H0 : Heap} {Ts : List Cond} {tys : List (ClassId × FieldType)} {ad : Nat → Nat} {N : Nat} {S : Nat → va_E} {own : String}
theorem n_hzI (K : Nat) (c : ClassId) : Jvm.Free.Multi.innerC c K (defaultValue .int) = vp_cell c (K, .inl (fun _ => 0)) := by
  show ({ cls := c, slots := Array.replicate K (.int 0), vm := .none } : Cell) = arrV c K (fun _ => .int 0)
  rw [arrV_new]
theorem n_hzJ (K : Nat) (c : ClassId) : Jvm.Free.Multi.innerC c K (defaultValue .long) = vp_cell c (K, .inr (.inl (fun _ => 0))) := by
  show ({ cls := c, slots := Array.replicate K (.long 0), vm := .none } : Cell) = arrV c K (fun _ => .long 0)
  rw [arrV_new]
theorem g_outer {M : Nat} {r r1 : Nat → Nat} (h : ∀ i, i < M → r i = r1 i) : (fun i => if i < M then some (r i) else none) = (fun i => if i < M then some (r1 i) else none) := by
  funext i
  by_cases hi : i < M
  · rw [if_pos hi, if_pos hi, h i hi]
  · rw [if_neg hi, if_neg hi]
theorem g_rows {r : Nat → Nat} {K : Nat} {f : Nat → va_E} {e : va_E} : va_pl ([] ++ (List.range K).map r) (vr_up f ((List.range K).map r) e) = cW r K (fun _ => e) := by
  unfold va_pl cW
  rw [List.nil_append, List.map_map]
  refine List.map_congr_left (fun i hi => ?_)
  show (r i, vr_up f ((List.range K).map r) e (r i)) = (r i, e)
  rw [vr_up_in (List.mem_map_of_mem hi)]
theorem va_asta {cl : List vw_C} {a : Nat} {ws : va_W} (hexec : p.tables.exec = Jvm.exec) (hb : c.code = cc) (hK : va_K D cl tys s) (hP : va_P D cl ws H) (hD : va_D A ws) (hS : va_S A H0 H locs) (q0 t0 qk : Nat) {ty : FieldType} {cA cy : ClassId} {n K v : Nat} {g : Nat → Int64} {f : Nat → Option Nat} (ha : ws[q0]? = some (a, .inl (cA, n, .inr (.inr (.inr (.inr f)))))) (ht : tys[t0]? = some (cA, .array ty)) (ho : va_AOA ty s) (hcy : s.vm.findClass (FieldType.array ty).toString = some cy) (hv : ws[qk]? = some (v, .inl (cy, K, .inr (.inl g)))) {i : Int32} (hin : vp_in i n) (hdg : decode cc pc = .ok (.aastore, 1))
    (kk : ∀ (H1 : Heap) (locs1 : List Loc), va_P D cl (ws.set q0 (a, .inl (cA, n, .inr (.inr (.inr (.inr (va_up f i.toNatClampNeg (some v)))))))) H1 → va_D A (ws.set q0 (a, .inl (cA, n, .inr (.inr (.inr (.inr (va_up f i.toNatClampNeg (some v)))))))) → va_S A H0 H1 locs1 → W p l e R s m args below meth c H1 locs1 cells slots Q (F0 m (pc + 1) ls rest)) : W p l e R s m args below meth c H locs cells slots Q (F0 m pc ls (.ref v :: .int i :: .ref a :: rest)) := by
  have hlt : i.toNatClampNeg < n := Nat.not_le.mp fun q => hin (Or.inr q)
  have h0 : ¬ i < 0 := fun q => hin (Or.inl q)
  obtain ⟨comp, c0, kA, f1, f2, f3, f4⟩ := Cond.arrayOver_specA (va_AOA.use (A := args) ho)
  cases Option.some.inj (f1.symm.trans hcy)
  cases Option.some.inj (f4.symm.trans (show s.vm.findClass ("[" ++ (FieldType.array ty).toString) = some cA from (hK.2 t0 _ ht).2))
  obtain ⟨kE, hkE, -⟩ := Vm.findClass_spec f1
  refine W.aast hexec hb (hP q0 _ ha) (fun q h => by cases h) (fun h => by cases h) f2 f3 rfl hkE ⟨h0, by show _ < (arrV _ _ _).slots.size; rw [arrV_size]; exact hlt⟩ (hP qk _ hv) (fun q h => by cases h) hkE (va_asg _ _) rfl rfl hdg fun H1 e z oq => ?_
  refine kk H1 _ (hP.set hD ha ?_ oq) (hD.set ha) (hS.put z oq (hD.2 q0 _ ha))
  show H1[a]? = some (vp_cell _ _)
  rw [e]
  rw [vp_cell_q, vp_cell_q, arrV_store]
  congr 2
  funext q
  by_cases hq : q = i.toNatClampNeg
  · subst hq
    simp [updV, va_up, va_rf]
  · simp [updV, va_up, hq]
theorem n_asta (E : cE p c cc s m args Ts D own tys) (G : cG D ad N A H0 H locs S) (q t0 qk : Nat) {cA cy : ClassId} {ty : FieldType} {n K k a v : Nat} {g : Nat → Int64} {f : Nat → Option Nat} {i : Int32} (hq : q < N) (ha : ad q = a) (hS : S q = .inl (cA, n, .inr (.inr (.inr (.inr f))))) (ht : tys[t0]? = some (cA, .array ty)) (ho : va_AOA ty s) (hcy : s.vm.findClass (FieldType.array ty).toString = some cy) (hqk : qk < N) (hv0 : ad qk = v) (hv : S qk = .inl (cy, K, .inr (.inl g))) (hi : i = nI k) (hk : k < n) (hn : n < 2 ^ 31) (hdg : decode cc pc = .ok (.aastore, 1)) (kk : ∀ (H1 : Heap) (locs1 : List Loc), cG D ad N A H0 H1 locs1 (va_up S q (.inl (cA, n, .inr (.inr (.inr (.inr (va_up f k (some v)))))))) → W p l e R s m args below meth c H1 locs1 cells slots Q (F0 m (pc + 1) ls rest)) : W p l e R s m args below meth c H locs cells slots Q (F0 m pc ls (.ref v :: .int i :: .ref a :: rest)) := by
  subst hi
  subst ha
  subst hv0
  refine va_asta E.1 E.2.1 E.2.2.2.2 G.1 G.2.1 G.2.2 q t0 qk (cW_e hq hS) ht ho hcy (cW_e hqk hv) (vp_in_nI hk hn) hdg (fun H1 locs1 h1 h2 h3 => kk H1 locs1 ?_)
  rw [nI_clamp (Nat.lt_trans hk hn), cW_set hq] at h1 h2
  exact ⟨h1, h2, h3⟩
theorem n_mna (E : cE p c cc s m args Ts D own tys) (G : cG D ad N A H0 H locs S) (hA : ∀ q, H0.size ≤ q → A q) (t0 t1 : Nat) {cA cy : ClassId} {ty : FieldType} {idx : Nat} {n k : Int32} {M K : Nat} {z : vp_A} (h1 : (Cond.classLink own idx ("[" ++ (FieldType.array ty).toString)) ∈ Ts) (ho : va_AOA ty s) (h2 : Cond.arrayClass ty ∈ Ts) (hcy : s.vm.findClass (FieldType.array ty).toString = some cy) (ht : tys[t0]? = some (cA, .array ty)) (hn : n = nI M) (hk : k = nI K) (hM : M ≤ 1000) (hK : K ≤ 1000) (hb2 : K * componentBytes ty ≤ 536870912) (hdf : fits ty (defaultValue ty) = true) (hdd : (defaultValue ty).isDefault = true) (hz : ∀ c : ClassId, Jvm.Free.Multi.innerC c K (defaultValue ty) = vp_cell c z) (hcells : cells + (1 + M) ≤ R.cells) (hslots : slots + (M + M * K) ≤ R.slots) (hdg : decode cc pc = .ok (.multianewarray idx 2, 4))
    (kk : ∀ (q : Nat) (r : Nat → Nat) (H1 : Heap), cG D (cat (N + 1) (cat N ad (fun _ => q)) r) (N + 1 + M) A H0 H1 locs (cat (N + 1) (cat N S (fun _ => .inl (cA, M, .inr (.inr (.inr (.inr (fun i => if i < M then some (r i) else none))))))) (fun _ => .inl (cy, z))) → W p l e R s m args below meth c H1 locs (cells + 1 + M) (slots + M + M * K) Q (F0 m (pc + 4) ls (.ref q :: rest))) : W p l e R s m args below meth c H locs cells slots Q (F0 m pc ls (.int k :: .int n :: rest)) := by
  subst hn
  subst hk
  have e0 : cW ad N S ++ va_pl [] (fun _ => .inr (0, [])) = cW ad N S := List.append_nil _
  refine va_mna (X := cW ad N S) (L := []) (f := fun _ => .inr (0, [])) (K' := K) (N' := M) (z := z) E.1 E.2.1 E.2.2.2.1 (E.2.2.1 _ h1) ho (E.2.2.1 _ h2) hcy E.2.2.2.2 (by rw [e0]; exact G.1) (by rw [e0]; exact G.2.1) G.2.2 hA (nI_pos (by omega)) (nI_pos (by omega)) (nI_clamp (by omega)) (nI_clamp (by omega)) (by omega) hb2 (by omega) hdf hdd hcells hslots hz hdg (fun q r cB H1 hi hl k1 g1 g2 g3 => ?_)
  have e : cB = cA := Option.some.inj ((show s.vm.findClass ("[" ++ (FieldType.array ty).toString) = some cB from (k1.2 tys.length (cB, .array ty) (by rw [List.getElem?_append_right (Nat.le_refl _), Nat.sub_self]; rfl)).2).symm.trans (show s.vm.findClass ("[" ++ (FieldType.array ty).toString) = some cA from (E.2.2.2.2.2 t0 _ ht).2))
  subst e
  rw [g_rows] at g1 g2
  have e1 : cW ad N S ++ [(q, (.inl (cB, M, .inr (.inr (.inr (.inr (fun i => if i < M then some (r i) else none))))) : va_E))] = cW (cat N ad (fun _ => q)) (N + 1) (cat N S (fun _ => .inl (cB, M, .inr (.inr (.inr (.inr (fun i => if i < M then some (r i) else none))))))) := cW_cat (b := fun _ => q) (M := 1) (T := fun _ => .inl (cB, M, .inr (.inr (.inr (.inr (fun i => if i < M then some (r i) else none))))))
  rw [e1, cW_cat] at g1 g2
  exact kk q r H1 ⟨g1, g2, g3⟩
end CNG
