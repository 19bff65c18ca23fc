/-- a void call that touches nothing -/
def s_Sv : Array Value → State → Outcome → State → Prop := fun _ st o t => o = .returned none ∧ t.heap = st.heap
/-- q is a String of Latin-1 letters: tx.1 of them, tx.2 j the j-th -/
def sO (tx : Nat × (Nat → Int32)) (q : Nat) (A : Nat → Prop) (U : State) (H : Heap) : Prop := ∃ v : Nat, va_O RJ0 q A U H ∧ va_OF RJ0 "coder" "B" (.int 0) q A U H ∧ va_OF RJ0 "value" "[B" (.ref v) q A U H ∧ va_T .byte v tx.1 (fun j => .int (tx.2 j)) A U H
theorem sO.moved {tx : Nat × (Nat → Int32)} {q : Nat} {A : Nat → Prop} {u U : State} {H : Heap} (hvm : u.vm.Alike U.vm) (h : sO tx q A u H) : sO tx q A U H := h.elim fun v h => ⟨v, va_O.moved hvm h.1, va_OF.moved hvm h.2.1, va_OF.moved hvm h.2.2.1, va_T.moved hvm h.2.2.2⟩
theorem sO.kept {tx : Nat × (Nat → Int32)} {q : Nat} {A : Nat → Prop} {U : State} {H H1 : Heap} (h : sO tx q A U H) (hq : ∀ a : Nat, a < H.size → ¬ A a → H1[a]? = H[a]?) : sO tx q A U H1 := h.elim fun v h => ⟨v, h.1.kept hq, h.2.1.kept hq, h.2.2.1.kept hq, h.2.2.2.kept hq⟩
theorem sO.narrow {tx : Nat × (Nat → Int32)} {q : Nat} {A B : Nat → Prop} {U : State} {H : Heap} (h : sO tx q A U H) (hAB : ∀ q, B q → A q) : sO tx q B U H := h.elim fun v h => ⟨v, h.1.narrow hAB, h.2.1.narrow hAB, h.2.2.1.narrow hAB, h.2.2.2.narrow hAB⟩
/-- the two statics that String's own code reads -/
def sZ (A : Nat → Prop) (U : State) (H : Heap) : Prop := va_Z RJ0 "COMPACT_STRINGS" "Z" (.int 1) A U H ∧ va_Zq RJ3 "SIOOBE_FORMATTER" "Ljava/util/function/BiFunction;" A U H
theorem sZ.moved {A : Nat → Prop} {u U : State} {H : Heap} (hvm : u.vm.Alike U.vm) (h : sZ A u H) : sZ A U H := ⟨va_Z.moved hvm h.1, va_Zq.moved hvm h.2⟩
theorem sZ.kept {A : Nat → Prop} {U : State} {H H1 : Heap} (h : sZ A U H) (hq : ∀ a : Nat, a < H.size → ¬ A a → H1[a]? = H[a]?) : sZ A U H1 := ⟨h.1.kept hq, h.2.kept hq⟩
theorem sZ.narrow {A B : Nat → Prop} {U : State} {H : Heap} (h : sZ A U H) (hAB : ∀ q, B q → A q) : sZ B U H := ⟨h.1.narrow hAB, h.2.narrow hAB⟩
def sP (tx : Nat × (Nat → Int32)) (q : Nat) (U : State) : Prop := sO tx q (fun _ => False) U U.heap ∧ sZ (fun _ => False) U U.heap
theorem sP.blind {tx : Nat × (Nat → Int32)} {q : Nat} {U : State} {g : JFrame} {mk : MethodId} {a : Array Value} (h : sP tx q U) : sP tx q (U.calling g mk a) := ⟨sO.moved (u := U) (U := U.calling g mk a) (Vm.Alike.refl U.vm) h.1, sZ.moved (u := U) (U := U.calling g mk a) (Vm.Alike.refl U.vm) h.2⟩
section JDKS
variable {p : Program} {l : Launch} {e : Env} {R : Room} {s : State} {m : MethodId} {args : Array Value} {below : List Frame} {meth : Method} {c : Code} {H : Heap} {locs : List Loc} {cells slots : Nat} {Q : State → Prop}
variable {cc : ByteArray} {pc : Nat} {ls : Array Slot} {rest : List Value}
theorem s_callSv {a : Array Value} {st0 : List Value} (hr : CallRun p l e R s m args below meth c H locs cells slots 0 0 (F0 m pc ls st0) rest (s_Sv a) (fun _ => False)) (kk : W p l e R s m args below meth c H locs cells slots Q (F0 m (pc + 3) ls rest)) : W p l e R s m args below meth c H locs cells slots Q (F0 m pc ls st0) := by
  intro T hT X
  obtain ⟨v, st₀, t, T', L, h0, X', hL, e1, ⟨hv, hh⟩, st⟩ := hr T hT X
  cases hv
  obtain ⟨t2, a1, b1⟩ := kk T' (by rw [e1, hh, h0]) (Stand.forget X' (fun q h => (hL q h).elim))
  exact ⟨t2, st t2 a1, b1⟩
theorem s_callV {y : MethodName} {bytes : ByteArray} {maxL nL n index fr lo : Nat} {ret : Option FieldType} {Ts ws : List Cond} {As : List Value} {post : Int32 → Prop} {own C : String} {q : Nat} {P : State → Prop} (F : CallFix p m c cc nL s args Ts own) (hM : Met l y ws { frames := fr, cells := 0, slots := 0, locals := lo } (va_Pc (.ref q :: As) P) (vp_Si post) 0 0 (fun _ => False)) (cw : CallW R s args own C index y bytes maxL ret ws { frames := fr, cells := 0, slots := 0, locals := lo } 0 0 n) (hr : ∃ cell : Cell, H[q]? = some cell ∧ cell.vm.isStatics = false ∧ s.vm.findClass C = some cell.cls) (hB : ∀ (a : Array Value) (U : State) (g : JFrame) (mk : MethodId), P U → P (U.calling g mk a)) (hP : ∀ U : State, U.heap = H → s.WarmedH U.vm → P U) (hn : As.length = n) (hsz : ls.size = nL) {st : List Value} (hst : st = As.reverse ++ .ref q :: rest) (hW : 2 * (F0 m pc ls st).monitorRoom + (rest.map fun v => v.category).sum ≤ 8) (hdg : decode cc pc = .ok (.invokevirtual index, 3)) (hf : cells ≤ R.cells ∧ slots ≤ R.slots) (kk : ∀ r : Int32, post r → W p l e R s m args below meth c H locs cells slots Q (F0 m (pc + 3) ls (.int r :: rest))) : W p l e R s m args below meth c H locs cells slots Q (F0 m pc ls st) :=
  vp_callSi (W.runV F hM cw ⟨fun a U g mk q => ⟨q.1, hB a U g mk q.2⟩, hr, fun U hU hW => ⟨rfl, hP U hU hW⟩⟩ rfl hn hsz hst hW hdg hf) kk
theorem s_stat {y : MethodName} {bytes : ByteArray} {maxL nL n index fr lo : Nat} {ret : Option FieldType} {Ts ws : List Cond} {As : List Value} {post : Int32 → Prop} {own : String} {P : State → Prop} (F : CallFix p m c cc nL s args Ts own) (hM : Met l y ws { frames := fr, cells := 0, slots := 0, locals := lo } (va_Pc As P) (vp_Si post) 0 0 (fun _ => False)) (cw : CallB R s args own index y bytes maxL ret ws { frames := fr, cells := 0, slots := 0, locals := lo } 0 0 n ∧ (Cond.static y).before args s = true) (hB : ∀ (a : Array Value) (U : State) (g : JFrame) (mk : MethodId), P U → P (U.calling g mk a)) (hP : ∀ U : State, U.heap = H → s.WarmedH U.vm → P U) (hn : As.length = n) (hsz : ls.size = nL) {st : List Value} (hst : st = As.reverse ++ rest) (hW : 2 * (F0 m pc ls st).monitorRoom + (rest.map fun v => v.category).sum ≤ 8) (hdg : decode cc pc = .ok (.invokestatic index, 3)) (hf : cells ≤ R.cells ∧ slots ≤ R.slots) (kk : ∀ r : Int32, post r → W p l e R s m args below meth c H locs cells slots Q (F0 m (pc + 3) ls (.int r :: rest))) : W p l e R s m args below meth c H locs cells slots Q (F0 m pc ls st) :=
  vp_callSi (W.runS F hM cw ⟨fun a U g mk q => ⟨q.1, hB a U g mk q.2⟩, fun U hU hW => ⟨rfl, hP U hU hW⟩⟩ rfl hn hsz hst hW hdg hf) kk
theorem s_statv {y : MethodName} {bytes : ByteArray} {maxL nL n index fr lo : Nat} {ret : Option FieldType} {Ts ws : List Cond} {As : List Value} {own : String} {P : State → Prop} (F : CallFix p m c cc nL s args Ts own) (hM : Met l y ws { frames := fr, cells := 0, slots := 0, locals := lo } (va_Pc As P) s_Sv 0 0 (fun _ => False)) (cw : CallB R s args own index y bytes maxL ret ws { frames := fr, cells := 0, slots := 0, locals := lo } 0 0 n ∧ (Cond.static y).before args s = true) (hB : ∀ (a : Array Value) (U : State) (g : JFrame) (mk : MethodId), P U → P (U.calling g mk a)) (hP : ∀ U : State, U.heap = H → s.WarmedH U.vm → P U) (hn : As.length = n) (hsz : ls.size = nL) {st : List Value} (hst : st = As.reverse ++ rest) (hW : 2 * (F0 m pc ls st).monitorRoom + (rest.map fun v => v.category).sum ≤ 8) (hdg : decode cc pc = .ok (.invokestatic index, 3)) (hf : cells ≤ R.cells ∧ slots ≤ R.slots) (kk : W p l e R s m args below meth c H locs cells slots Q (F0 m (pc + 3) ls rest)) : W p l e R s m args below meth c H locs cells slots Q (F0 m pc ls st) :=
  s_callSv (W.runS F hM cw ⟨fun a U g mk q => ⟨q.1, hB a U g mk q.2⟩, fun U hU hW => ⟨rfl, hP U hU hW⟩⟩ rfl hn hsz hst hW hdg hf) kk
end JDKS
/-- the letter that charAt gives -/
def s_ch (x : Int32) : Int32 := ((x &&& 255).toUInt32 % 65536).toInt32
set_option maxHeartbeats 4000000 in
set_option maxRecDepth 100000 in
theorem j_coder (l : Launch) {tx : Nat × (Nat → Int32)} {q : Nat} : Met l yJ0_coder_7d493 (Cond.code yJ0_coder_7d493 cJ0_coder_7d493 1 (some .byte) :: wsM) { frames := 1, cells := 0, slots := 0, locals := 0 } (va_Pc [.ref q] (sP tx q)) (vp_Si (fun r => r = 0)) 0 0 (fun _ => False) := by
  refine Met.ofW (cc := cJ0_coder_7d493) (maxL := 1) (ret := (some .byte)) (by decide) rfl ?_
  intro p e s m args below meth c s₁ B hml hv
  obtain ⟨rfl, hv⟩ := hv
  have hx := B.exec
  have hb := B.bytes
  have hr := B.returns
  have hts := atoms_spec (ws := (Cond.code yJ0_coder_7d493 cJ0_coder_7d493 1 (some .byte) :: wsM)) B.pre
  have hown : s.vm.findClass RJ0 = some m.cls := findClass_of_methodNamed B.named
  have hlocks := B.notSynchronized
  have hS : va_S (fun _ : Nat => False) s.heap s.heap [] := va_S.rf
  have hl := lv_entry ([.ref q]) (n := 1) (Nat.le_of_ble_eq_true rfl)
  rw [lg_entry_eq]
  generalize (lg_sl ([.ref q]) ++ List.replicate (1 - (lg_sl ([.ref q])).length) Slot.unset).toArray = ls at hl ⊢
  have hl : lv_has ls 1 [(0, .ref q)] := hl
  obtain ⟨⟨v, h1, h2, h3, h4⟩, h5, h6⟩ := hv
  refine va_gets (v := .int 1) hx hb h5 hS hown (hts _ (.tail _ qM_68)) (fun _ h => h) dJ0_coder_7d493_0 ?_
  refine lv_if_eq (tgt := 13) hx hb dJ0_coder_7d493_3 (by decide) (fun h => absurd h (by decide)) (fun _ => ?_)
  refine lv_aload_n hx hb dJ0_coder_7d493_6 rfl (lv_at hl 0 rfl) ?_
  refine vk_getf hx hb h2 hS hown (hts _ (.tail _ qM_69)) (fun _ h => h) dJ0_coder_7d493_7 ?_
  refine lv_goto (tgt := 14) hx hb dJ0_coder_7d493_10 (by decide) ?_
  exact W.zret (v := 0) hx hb hr rfl (fun t ht hW => ⟨0, rfl, rfl, ht⟩) (fun _ h => absurd h List.not_mem_nil) dJ0_coder_7d493_14
set_option maxHeartbeats 4000000 in
set_option maxRecDepth 100000 in
theorem j_isLatin1 (l : Launch) {tx : Nat × (Nat → Int32)} {q : Nat} : Met l yJ0_isLatin1_aae02 (Cond.code yJ0_isLatin1_aae02 cJ0_isLatin1_aae02 1 (some .boolean) :: wsM) { frames := 1, cells := 0, slots := 0, locals := 0 } (va_Pc [.ref q] (sP tx q)) (vp_Si (fun r => r = 1)) 0 0 (fun _ => False) := by
  refine Met.ofW (cc := cJ0_isLatin1_aae02) (maxL := 1) (ret := (some .boolean)) (by decide) rfl ?_
  intro p e s m args below meth c s₁ B hml hv
  obtain ⟨rfl, hv⟩ := hv
  have hx := B.exec
  have hb := B.bytes
  have hr := B.returns
  have hts := atoms_spec (ws := (Cond.code yJ0_isLatin1_aae02 cJ0_isLatin1_aae02 1 (some .boolean) :: wsM)) B.pre
  have hown : s.vm.findClass RJ0 = some m.cls := findClass_of_methodNamed B.named
  have hlocks := B.notSynchronized
  have hS : va_S (fun _ : Nat => False) s.heap s.heap [] := va_S.rf
  have hl := lv_entry ([.ref q]) (n := 1) (Nat.le_of_ble_eq_true rfl)
  rw [lg_entry_eq]
  generalize (lg_sl ([.ref q]) ++ List.replicate (1 - (lg_sl ([.ref q])).length) Slot.unset).toArray = ls at hl ⊢
  have hl : lv_has ls 1 [(0, .ref q)] := hl
  obtain ⟨⟨v, h1, h2, h3, h4⟩, h5, h6⟩ := hv
  refine va_gets (v := .int 1) hx hb h5 hS hown (hts _ (.tail _ qM_68)) (fun _ h => h) dJ0_isLatin1_aae02_0 ?_
  refine lv_if_eq (tgt := 17) hx hb dJ0_isLatin1_aae02_3 (by decide) (fun h => absurd h (by decide)) (fun _ => ?_)
  refine lv_aload_n hx hb dJ0_isLatin1_aae02_6 rfl (lv_at hl 0 rfl) ?_
  refine vk_getf hx hb h2 hS hown (hts _ (.tail _ qM_69)) (fun _ h => h) dJ0_isLatin1_aae02_7 ?_
  refine lv_if_ne (tgt := 17) hx hb dJ0_isLatin1_aae02_10 (by decide) (fun h => absurd rfl h) (fun _ => ?_)
  refine lv_iconst (v := 1) hx hb dJ0_isLatin1_aae02_13 (by decide) ?_
  refine lv_goto (tgt := 18) hx hb dJ0_isLatin1_aae02_14 (by decide) ?_
  exact W.zret (v := 1) hx hb hr rfl (fun t ht hW => ⟨1, rfl, rfl, ht⟩) (fun _ h => absurd h List.not_mem_nil) dJ0_isLatin1_aae02_18
set_option maxHeartbeats 4000000 in
set_option maxRecDepth 100000 in
theorem j_length (l : Launch) {tx : Nat × (Nat → Int32)} {q : Nat} : Met l yJ0_length_8abf5 (Cond.code yJ0_length_8abf5 cJ0_length_8abf5 1 (some .int) :: wsM) { frames := 2, cells := 0, slots := 0, locals := 20 } (va_Pc [.ref q] (sP tx q)) (vp_Si (fun r => r = nI tx.1 >>> (0 &&& 31))) 0 0 (fun _ => False) := by
  refine Met.ofW (cc := cJ0_length_8abf5) (maxL := 1) (ret := (some .int)) (by decide) rfl ?_
  intro p e s m args below meth c s₁ B hml hv
  obtain ⟨rfl, hv⟩ := hv
  have hx := B.exec
  have hb := B.bytes
  have hr := B.returns
  have hts := atoms_spec (ws := (Cond.code yJ0_length_8abf5 cJ0_length_8abf5 1 (some .int) :: wsM)) B.pre
  have hown : s.vm.findClass RJ0 = some m.cls := findClass_of_methodNamed B.named
  have hlocks := B.notSynchronized
  have hS : va_S (fun _ : Nat => False) s.heap s.heap [] := va_S.rf
  have hl := lv_entry ([.ref q]) (n := 1) (Nat.le_of_ble_eq_true rfl)
  rw [lg_entry_eq]
  generalize (lg_sl ([.ref q]) ++ List.replicate (1 - (lg_sl ([.ref q])).length) Slot.unset).toArray = ls at hl ⊢
  have hl : lv_has ls 1 [(0, .ref q)] := hl
  obtain ⟨⟨v, h1, h2, h3, h4⟩, h5, h6⟩ := id hv
  refine lv_aload_n hx hb dJ0_length_8abf5_0 rfl (lv_at hl 0 rfl) ?_
  refine vk_getf hx hb h3 hS hown (hts _ (.tail _ qM_63)) (fun _ h => h) dJ0_length_8abf5_1 ?_
  refine va_tlen (v := nI tx.1) hx hb h4 hS rfl dJ0_length_8abf5_4 ?_
  refine lv_aload_n hx hb dJ0_length_8abf5_5 rfl (lv_at hl 0 rfl) ?_
  refine s_callV (As := []) (rest := [.int (nI tx.1)]) ⟨hx, hb, hml, hown, hts⟩ (j_coder l (tx := tx) (q := q)) (cwV 0 hts (gmV qM_64 qM_65 qM_66 qM_61 qM_67) rfl rfl rfl (by decide +kernel) ⟨Nat.le_of_ble_eq_true rfl, Nat.le_of_ble_eq_true rfl⟩) (h1.elim fun cell h => ⟨cell, h.1, h.2.1, h.2.2.1⟩) (fun _ _ _ _ h => h.blind) (fun U hU hW => ⟨by rw [hU]; exact sO.moved hW.alike hv.1, by rw [hU]; exact sZ.moved hW.alike hv.2⟩) rfl hl.1 rfl (lv_room (Nat.le_of_ble_eq_true rfl)) dJ0_length_8abf5_6 ⟨Nat.zero_le _, Nat.zero_le _⟩ (fun r hq => ?_)
  refine lv_to hq ?_
  refine lv_ishr hx hb dJ0_length_8abf5_9 ?_
  exact W.iret (v := (nI tx.1 >>> (0 &&& 31))) hx hb hr (fun t ht hW => ⟨(nI tx.1 >>> (0 &&& 31)), rfl, rfl, ht⟩) (fun _ h => absurd h List.not_mem_nil) dJ0_length_8abf5_10
set_option maxHeartbeats 4000000 in
set_option maxRecDepth 100000 in
theorem j_ck3n (l : Launch) {i n : Nat} (hi : i < n) (hn : n < 2 ^ 31) : Met l yJ3_checkIndex_8e157 (Cond.code yJ3_checkIndex_8e157 cJ3_checkIndex_8e157 3 (some .int) :: wsM) { frames := 1, cells := 0, slots := 0, locals := 0 } (va_Pc [.int (nI i), .int (nI n), .null] (fun _ => True)) (vp_Si (fun r => r = nI i)) 0 0 (fun _ => False) := by
  refine Met.ofW (cc := cJ3_checkIndex_8e157) (maxL := 3) (ret := (some .int)) (by decide) rfl ?_
  intro p e s m args below meth c s₁ B hml hv
  obtain ⟨rfl, hv⟩ := hv
  have hx := B.exec
  have hb := B.bytes
  have hr := B.returns
  have hts := atoms_spec (ws := (Cond.code yJ3_checkIndex_8e157 cJ3_checkIndex_8e157 3 (some .int) :: wsM)) B.pre
  have hown : s.vm.findClass RJ3 = some m.cls := findClass_of_methodNamed B.named
  have hlocks := B.notSynchronized
  have hS : va_S (fun _ : Nat => False) s.heap s.heap [] := va_S.rf
  have hl := lv_entry ([.int (nI i), .int (nI n), .null]) (n := 3) (Nat.le_of_ble_eq_true rfl)
  rw [lg_entry_eq]
  generalize (lg_sl ([.int (nI i), .int (nI n), .null]) ++ List.replicate (3 - (lg_sl ([.int (nI i), .int (nI n), .null])).length) Slot.unset).toArray = ls at hl ⊢
  have hl : lv_has ls 3 [(0, .int (nI i)), (1, .int (nI n)), (2, .null)] := hl
  refine lv_iload_n hx hb dJ3_checkIndex_8e157_0 rfl (lv_at hl 0 rfl) ?_
  refine lv_if_lt (tgt := 9) hx hb dJ3_checkIndex_8e157_1 (by decide) (fun h => absurd h (nI_pos (Nat.lt_trans hi hn))) (fun _ => ?_)
  refine lv_iload_n hx hb dJ3_checkIndex_8e157_4 rfl (lv_at hl 0 rfl) ?_
  refine lv_iload_n hx hb dJ3_checkIndex_8e157_5 rfl (lv_at hl 1 rfl) ?_
  refine lv_icmp_lt (tgt := 16) hx hb dJ3_checkIndex_8e157_6 (by decide) (fun _ => ?_) (fun h => absurd (nI_lt hi hn) h)
  refine lv_iload_n hx hb dJ3_checkIndex_8e157_16 rfl (lv_at hl 0 rfl) ?_
  exact W.iret (v := (nI i)) hx hb hr (fun t ht hW => ⟨(nI i), rfl, rfl, ht⟩) (fun _ h => absurd h List.not_mem_nil) dJ3_checkIndex_8e157_17
set_option maxHeartbeats 4000000 in
set_option maxRecDepth 100000 in
theorem j_ck3r (l : Launch) {i n : Nat} {z : Nat} (hi : i < n) (hn : n < 2 ^ 31) : Met l yJ3_checkIndex_8e157 (Cond.code yJ3_checkIndex_8e157 cJ3_checkIndex_8e157 3 (some .int) :: wsM) { frames := 1, cells := 0, slots := 0, locals := 0 } (va_Pc [.int (nI i), .int (nI n), .ref z] (fun _ => True)) (vp_Si (fun r => r = nI i)) 0 0 (fun _ => False) := by
  refine Met.ofW (cc := cJ3_checkIndex_8e157) (maxL := 3) (ret := (some .int)) (by decide) rfl ?_
  intro p e s m args below meth c s₁ B hml hv
  obtain ⟨rfl, hv⟩ := hv
  have hx := B.exec
  have hb := B.bytes
  have hr := B.returns
  have hts := atoms_spec (ws := (Cond.code yJ3_checkIndex_8e157 cJ3_checkIndex_8e157 3 (some .int) :: wsM)) B.pre
  have hown : s.vm.findClass RJ3 = some m.cls := findClass_of_methodNamed B.named
  have hlocks := B.notSynchronized
  have hS : va_S (fun _ : Nat => False) s.heap s.heap [] := va_S.rf
  have hl := lv_entry ([.int (nI i), .int (nI n), .ref z]) (n := 3) (Nat.le_of_ble_eq_true rfl)
  rw [lg_entry_eq]
  generalize (lg_sl ([.int (nI i), .int (nI n), .ref z]) ++ List.replicate (3 - (lg_sl ([.int (nI i), .int (nI n), .ref z])).length) Slot.unset).toArray = ls at hl ⊢
  have hl : lv_has ls 3 [(0, .int (nI i)), (1, .int (nI n)), (2, .ref z)] := hl
  refine lv_iload_n hx hb dJ3_checkIndex_8e157_0 rfl (lv_at hl 0 rfl) ?_
  refine lv_if_lt (tgt := 9) hx hb dJ3_checkIndex_8e157_1 (by decide) (fun h => absurd h (nI_pos (Nat.lt_trans hi hn))) (fun _ => ?_)
  refine lv_iload_n hx hb dJ3_checkIndex_8e157_4 rfl (lv_at hl 0 rfl) ?_
  refine lv_iload_n hx hb dJ3_checkIndex_8e157_5 rfl (lv_at hl 1 rfl) ?_
  refine lv_icmp_lt (tgt := 16) hx hb dJ3_checkIndex_8e157_6 (by decide) (fun _ => ?_) (fun h => absurd (nI_lt hi hn) h)
  refine lv_iload_n hx hb dJ3_checkIndex_8e157_16 rfl (lv_at hl 0 rfl) ?_
  exact W.iret (v := (nI i)) hx hb hr (fun t ht hW => ⟨(nI i), rfl, rfl, ht⟩) (fun _ h => absurd h List.not_mem_nil) dJ3_checkIndex_8e157_17
set_option maxHeartbeats 4000000 in
set_option maxRecDepth 100000 in
theorem j_ck0 (l : Launch) {i n : Nat} (hi : i < n) (hn : n < 2 ^ 31) : Met l yJ0_checkIndex_df160 (Cond.code yJ0_checkIndex_df160 cJ0_checkIndex_df160 2 none :: wsM) { frames := 2, cells := 0, slots := 0, locals := 22 } (va_Pc [.int (nI i), .int (nI n)] (fun U => sZ (fun _ => False) U U.heap)) s_Sv 0 0 (fun _ => False) := by
  refine Met.ofW (cc := cJ0_checkIndex_df160) (maxL := 2) (ret := none) (by decide) rfl ?_
  intro p e s m args below meth c s₁ B hml hv
  obtain ⟨rfl, hv⟩ := hv
  have hx := B.exec
  have hb := B.bytes
  have hr := B.returns
  have hts := atoms_spec (ws := (Cond.code yJ0_checkIndex_df160 cJ0_checkIndex_df160 2 none :: wsM)) B.pre
  have hown : s.vm.findClass RJ0 = some m.cls := findClass_of_methodNamed B.named
  have hlocks := B.notSynchronized
  have hS : va_S (fun _ : Nat => False) s.heap s.heap [] := va_S.rf
  have hl := lv_entry ([.int (nI i), .int (nI n)]) (n := 2) (Nat.le_of_ble_eq_true rfl)
  rw [lg_entry_eq]
  generalize (lg_sl ([.int (nI i), .int (nI n)]) ++ List.replicate (2 - (lg_sl ([.int (nI i), .int (nI n)])).length) Slot.unset).toArray = ls at hl ⊢
  have hl : lv_has ls 2 [(0, .int (nI i)), (1, .int (nI n))] := hl
  obtain ⟨h5, h6⟩ := hv
  refine lv_iload_n hx hb dJ0_checkIndex_df160_0 rfl (lv_at hl 0 rfl) ?_
  refine lv_iload_n hx hb dJ0_checkIndex_df160_1 rfl (lv_at hl 1 rfl) ?_
  rcases h6 with h6 | ⟨z, h6⟩
  · refine va_gets (v := .null) hx hb h6 hS hown (hts _ (.tail _ qM_85)) (fun _ h => h) dJ0_checkIndex_df160_2 ?_
    refine s_stat (As := [.int (nI i), .int (nI n), .null]) (rest := []) ⟨hx, hb, hml, hown, hts⟩ (j_ck3n l hi hn) ⟨callB_of 3 hts (gmIn (L := []) (fun _ h => absurd h List.not_mem_nil) qM_89) rfl rfl rfl (hts _ (.tail _ qM_88)) (hts _ (.tail _ qM_86)) (by decide +kernel) ⟨Nat.le_of_ble_eq_true rfl, Nat.le_of_ble_eq_true rfl⟩, hts _ (.tail _ qM_87)⟩ (fun _ _ _ _ h => h) (fun _ _ _ => trivial) rfl hl.1 rfl (lv_room (Nat.le_of_ble_eq_true rfl)) dJ0_checkIndex_df160_5 ⟨Nat.zero_le _, Nat.zero_le _⟩ (fun r hq => ?_)
    refine lv_pop hx hb dJ0_checkIndex_df160_8 rfl ?_
    exact W.vret hx hb hr (fun t ht hW => ⟨rfl, ht⟩) (fun _ h => absurd h List.not_mem_nil) dJ0_checkIndex_df160_9
  · refine va_gets (v := .ref z) hx hb h6 hS hown (hts _ (.tail _ qM_85)) (fun _ h => h) dJ0_checkIndex_df160_2 ?_
    refine s_stat (As := [.int (nI i), .int (nI n), .ref z]) (rest := []) ⟨hx, hb, hml, hown, hts⟩ (j_ck3r l hi hn) ⟨callB_of 3 hts (gmIn (L := []) (fun _ h => absurd h List.not_mem_nil) qM_89) rfl rfl rfl (hts _ (.tail _ qM_88)) (hts _ (.tail _ qM_86)) (by decide +kernel) ⟨Nat.le_of_ble_eq_true rfl, Nat.le_of_ble_eq_true rfl⟩, hts _ (.tail _ qM_87)⟩ (fun _ _ _ _ h => h) (fun _ _ _ => trivial) rfl hl.1 rfl (lv_room (Nat.le_of_ble_eq_true rfl)) dJ0_checkIndex_df160_5 ⟨Nat.zero_le _, Nat.zero_le _⟩ (fun r hq => ?_)
    refine lv_pop hx hb dJ0_checkIndex_df160_8 rfl ?_
    exact W.vret hx hb hr (fun t ht hW => ⟨rfl, ht⟩) (fun _ h => absurd h List.not_mem_nil) dJ0_checkIndex_df160_9
set_option maxHeartbeats 4000000 in
set_option maxRecDepth 100000 in
theorem j_ch1 (l : Launch) {v k n : Nat} {f : Nat → Int32} (hk : k < n) (hn : n < 2 ^ 31) (hc : narrow .char (.int (s_ch (f k))) = .int (s_ch (f k))) : Met l yJ1_charAt_3b067 (Cond.code yJ1_charAt_3b067 cJ1_charAt_3b067 2 (some .char) :: wsM) { frames := 3, cells := 0, slots := 0, locals := 44 } (va_Pc [.ref v, .int (nI k)] (fun U => va_T .byte v n (fun j => .int (f j)) (fun _ => False) U U.heap ∧ sZ (fun _ => False) U U.heap)) (vp_Si (fun r => r = s_ch (f k))) 0 0 (fun _ => False) := by
  refine Met.ofW (cc := cJ1_charAt_3b067) (maxL := 2) (ret := (some .char)) (by decide) rfl ?_
  intro p e s m args below meth c s₁ B hml hv
  obtain ⟨rfl, hv⟩ := hv
  have hx := B.exec
  have hb := B.bytes
  have hr := B.returns
  have hts := atoms_spec (ws := (Cond.code yJ1_charAt_3b067 cJ1_charAt_3b067 2 (some .char) :: wsM)) B.pre
  have hown : s.vm.findClass RJ1 = some m.cls := findClass_of_methodNamed B.named
  have hlocks := B.notSynchronized
  have hS : va_S (fun _ : Nat => False) s.heap s.heap [] := va_S.rf
  have hl := lv_entry ([.ref v, .int (nI k)]) (n := 2) (Nat.le_of_ble_eq_true rfl)
  rw [lg_entry_eq]
  generalize (lg_sl ([.ref v, .int (nI k)]) ++ List.replicate (2 - (lg_sl ([.ref v, .int (nI k)])).length) Slot.unset).toArray = ls at hl ⊢
  have hl : lv_has ls 2 [(0, .ref v), (1, .int (nI k))] := hl
  obtain ⟨h4, h5⟩ := hv
  refine lv_iload_n hx hb dJ1_charAt_3b067_0 rfl (lv_at hl 1 rfl) ?_
  refine lv_aload_n hx hb dJ1_charAt_3b067_1 rfl (lv_at hl 0 rfl) ?_
  refine va_tlen (v := nI n) hx hb h4 hS rfl dJ1_charAt_3b067_2 ?_
  refine s_statv (As := [.int (nI k), .int (nI n)]) (rest := []) ⟨hx, hb, hml, hown, hts⟩ (j_ck0 l hk hn) ⟨callB_of 2 hts (gmIn (L := []) (fun _ h => absurd h List.not_mem_nil) qM_84) rfl rfl rfl (hts _ (.tail _ qM_61)) (hts _ (.tail _ qM_82)) (by decide +kernel) ⟨Nat.le_of_ble_eq_true rfl, Nat.le_of_ble_eq_true rfl⟩, hts _ (.tail _ qM_83)⟩ (fun _ U g mk h => sZ.moved (u := U) (Vm.Alike.refl U.vm) h) (fun U hU hW => by rw [hU]; exact sZ.moved hW.alike h5) rfl hl.1 rfl (lv_room (Nat.le_of_ble_eq_true rfl)) dJ1_charAt_3b067_3 ⟨Nat.zero_le _, Nat.zero_le _⟩ ?_
  refine lv_aload_n hx hb dJ1_charAt_3b067_6 rfl (lv_at hl 0 rfl) ?_
  refine lv_iload_n hx hb dJ1_charAt_3b067_7 rfl (lv_at hl 1 rfl) ?_
  refine va_tb (v := .int (f k)) hx hb h4 hS (vp_in_nI hk hn) (by rw [nI_clamp (Nat.lt_trans hk hn)]) dJ1_charAt_3b067_8 ?_
  refine lv_sipush (v := 255) hx hb dJ1_charAt_3b067_9 (by decide) ?_
  refine lv_iand hx hb dJ1_charAt_3b067_12 ?_
  refine lv_i2c (v := s_ch (f k)) hx hb dJ1_charAt_3b067_13 rfl ?_
  exact W.zret (v := (s_ch (f k))) hx hb hr hc (fun t ht hW => ⟨(s_ch (f k)), rfl, rfl, ht⟩) (fun _ h => absurd h List.not_mem_nil) dJ1_charAt_3b067_14
set_option maxHeartbeats 4000000 in
set_option maxRecDepth 100000 in
theorem j_charAt (l : Launch) {tx : Nat × (Nat → Int32)} {q : Nat} {k : Nat} (hk : k < tx.1) (hn : tx.1 < 2 ^ 31) (hc : narrow .char (.int (s_ch (tx.2 k))) = .int (s_ch (tx.2 k))) : Met l yJ0_charAt_5068e (Cond.code yJ0_charAt_5068e cJ0_charAt_5068e 2 (some .char) :: wsM) { frames := 4, cells := 0, slots := 0, locals := 66 } (va_Pc [.ref q, .int (nI k)] (sP tx q)) (vp_Si (fun r => r = s_ch (tx.2 k))) 0 0 (fun _ => False) := by
  refine Met.ofW (cc := cJ0_charAt_5068e) (maxL := 2) (ret := (some .char)) (by decide) rfl ?_
  intro p e s m args below meth c s₁ B hml hv
  obtain ⟨rfl, hv⟩ := hv
  have hx := B.exec
  have hb := B.bytes
  have hr := B.returns
  have hts := atoms_spec (ws := (Cond.code yJ0_charAt_5068e cJ0_charAt_5068e 2 (some .char) :: wsM)) B.pre
  have hown : s.vm.findClass RJ0 = some m.cls := findClass_of_methodNamed B.named
  have hlocks := B.notSynchronized
  have hS : va_S (fun _ : Nat => False) s.heap s.heap [] := va_S.rf
  have hl := lv_entry ([.ref q, .int (nI k)]) (n := 2) (Nat.le_of_ble_eq_true rfl)
  rw [lg_entry_eq]
  generalize (lg_sl ([.ref q, .int (nI k)]) ++ List.replicate (2 - (lg_sl ([.ref q, .int (nI k)])).length) Slot.unset).toArray = ls at hl ⊢
  have hl : lv_has ls 2 [(0, .ref q), (1, .int (nI k))] := hl
  obtain ⟨⟨v, h1, h2, h3, h4⟩, h5⟩ := id hv
  refine lv_aload_n hx hb dJ0_charAt_5068e_0 rfl (lv_at hl 0 rfl) ?_
  refine s_callV (As := []) (rest := []) ⟨hx, hb, hml, hown, hts⟩ (j_isLatin1 l (tx := tx) (q := q)) (cwV 0 hts (gmV qM_74 qM_75 qM_76 qM_61 qM_77) rfl rfl rfl (by decide +kernel) ⟨Nat.le_of_ble_eq_true rfl, Nat.le_of_ble_eq_true rfl⟩) (h1.elim fun cell h => ⟨cell, h.1, h.2.1, h.2.2.1⟩) (fun _ _ _ _ h => h.blind) (fun U hU hW => ⟨by rw [hU]; exact sO.moved hW.alike hv.1, by rw [hU]; exact sZ.moved hW.alike hv.2⟩) rfl hl.1 rfl (lv_room (Nat.le_of_ble_eq_true rfl)) dJ0_charAt_5068e_1 ⟨Nat.zero_le _, Nat.zero_le _⟩ (fun r hq => ?_)
  refine lv_to hq ?_
  refine lv_if_eq (tgt := 16) hx hb dJ0_charAt_5068e_4 (by decide) (fun h => absurd h (by decide)) (fun _ => ?_)
  refine lv_aload_n hx hb dJ0_charAt_5068e_7 rfl (lv_at hl 0 rfl) ?_
  refine vk_getf hx hb h3 hS hown (hts _ (.tail _ qM_63)) (fun _ h => h) dJ0_charAt_5068e_8 ?_
  refine lv_iload_n hx hb dJ0_charAt_5068e_11 rfl (lv_at hl 1 rfl) ?_
  refine s_stat (As := [.ref v, .int (nI k)]) (rest := []) ⟨hx, hb, hml, hown, hts⟩ (j_ch1 l (v := v) (n := tx.1) (f := tx.2) hk hn hc) ⟨callB_of 2 hts (gmIn (L := []) (fun _ h => absurd h List.not_mem_nil) qM_81) rfl rfl rfl (hts _ (.tail _ qM_80)) (hts _ (.tail _ qM_78)) (by decide +kernel) ⟨Nat.le_of_ble_eq_true rfl, Nat.le_of_ble_eq_true rfl⟩, hts _ (.tail _ qM_79)⟩ (fun _ U g mk h => ⟨va_T.moved (u := U) (Vm.Alike.refl U.vm) h.1, sZ.moved (u := U) (Vm.Alike.refl U.vm) h.2⟩) (fun U hU hW => ⟨by rw [hU]; exact va_T.moved hW.alike h4, by rw [hU]; exact sZ.moved hW.alike h5⟩) rfl hl.1 rfl (lv_room (Nat.le_of_ble_eq_true rfl)) dJ0_charAt_5068e_12 ⟨Nat.zero_le _, Nat.zero_le _⟩ (fun r hq => ?_)
  refine lv_to hq ?_
  exact W.zret (v := (s_ch (tx.2 k))) hx hb hr hc (fun t ht hW => ⟨(s_ch (tx.2 k)), rfl, rfl, ht⟩) (fun _ h => absurd h List.not_mem_nil) dJ0_charAt_5068e_15
/-- the text of a String constant -/
def sTx (t : String) : Nat × (Nat → Int32) := (t.length, fun j => Int32.ofNat (t.toList.getD j 'a').toNat)
def sT (tx : Nat × (Nat → Int32)) : Prop := tx.1 < 2 ^ 31 ∧ ∀ k, k < tx.1 → narrow .char (.int (s_ch (tx.2 k))) = .int (s_ch (tx.2 k))
theorem sTx_ok {t : String} (h : (decide (t.length < 2 ^ 31) && (List.range t.length).all (fun k => decide (s_ch ((sTx t).2 k) = (sTx t).2 k) && decide (0 ≤ (sTx t).2 k) && decide ((sTx t).2 k < 128))) = true) : sT (sTx t) := by
  obtain ⟨h1, h2⟩ := (Bool.and_eq_true _ _).mp h
  refine ⟨of_decide_eq_true h1, fun k hk => ?_⟩
  have h3 := List.all_eq_true.mp h2 k (List.mem_range.mpr hk)
  obtain ⟨h4, h5⟩ := (Bool.and_eq_true _ _).mp h3
  obtain ⟨h6, h7⟩ := (Bool.and_eq_true _ _).mp h4
  rw [of_decide_eq_true h6]
  obtain ⟨j, hj, e⟩ := nI_of (Int32.not_lt.mpr (of_decide_eq_true h7))
  have h8 : (sTx t).2 k < 128 := of_decide_eq_true h5
  rw [e] at h8 ⊢
  have h9 : j < 128 := by
    have := Int32.lt_iff_toInt_lt.mp h8
    rw [nI_toInt hj] at this
    have h0 : (128 : Int32).toInt = 128 := by decide
    omega
  have hall : ∀ j, j < 128 → narrow .char (.int (nI j)) = .int (nI j) := by decide +kernel
  exact hall j h9
def sAll (h0 : Nat) (U : State) : Prop := (∀ x ∈ sL, ∃ q, vk_R x.1 x.2.1 x.2.2 q U ∧ sO (sTx x.2.2) q (fun a => h0 ≤ a) U U.heap) ∧ sZ (fun a => h0 ≤ a) U U.heap
def xT0 (cI cJ cZ : ClassId) (h0 : Nat) (ad : Nat → Nat) (S : MS) (sz : Nat) (U : State) : Prop := (∀ a, va_A (MW cI cJ cZ ad S) sz a → h0 ≤ a) ∧ sAll h0 U
def xT1 (cI cJ cZ : ClassId) (h0 : Nat) (ad : Nat → Nat) (S : MS) (tx : Nat × (Nat → Int32)) (q sz : Nat) (U : State) : Prop := xT0 cI cJ cZ h0 ad S sz U ∧ sO tx q (fun a => h0 ≤ a) U U.heap
theorem sAll.moved {h0 : Nat} {A : Nat → Prop} {s U : State} {H : Heap} {locs : List Loc} (hT : sAll h0 s) (hA0 : ∀ a : Nat, A a → h0 ≤ a) (hS : va_S A s.heap H locs) (hU : U.heap = H) (hW : s.WarmedH U.vm) : sAll h0 U := by
  have hk : ∀ a : Nat, a < s.heap.size → ¬ h0 ≤ a → H[a]? = s.heap[a]? := fun a h1 h2 => hS.2.1 a h1 (fun h3 => h2 (hA0 a h3))
  refine ⟨fun x hx => ?_, by rw [hU]; exact sZ.moved hW.alike (hT.2.kept hk)⟩
  obtain ⟨q, h1, h2⟩ := hT.1 x hx
  exact ⟨q, vk_R.warm hW h1, by rw [hU]; exact sO.moved hW.alike (h2.kept hk)⟩
theorem sAll.blind {h0 : Nat} {U : State} {g : JFrame} {mk : MethodId} {a : Array Value} (h : sAll h0 U) : sAll h0 (U.calling g mk a) :=
  ⟨fun x hx => (h.1 x hx).elim fun q h => ⟨q, vk_R.same rfl h.1, sO.moved (u := U) (U := U.calling g mk a) (Vm.Alike.refl U.vm) h.2⟩, sZ.moved (u := U) (U := U.calling g mk a) (Vm.Alike.refl U.vm) h.2⟩
theorem xT0.blind {cI cJ cZ : ClassId} {h0 : Nat} {ad : Nat → Nat} {S : MS} (sz : Nat) (a : Array Value) (U : State) (g : JFrame) (mk : MethodId) (h : xT0 cI cJ cZ h0 ad S sz U) : xT0 cI cJ cZ h0 ad S sz (U.calling g mk a) := ⟨h.1, h.2.blind⟩
theorem xT1.blind {cI cJ cZ : ClassId} {h0 : Nat} {ad : Nat → Nat} {S : MS} {tx : Nat × (Nat → Int32)} {q : Nat} (sz : Nat) (a : Array Value) (U : State) (g : JFrame) (mk : MethodId) (h : xT1 cI cJ cZ h0 ad S tx q sz U) : xT1 cI cJ cZ h0 ad S tx q sz (U.calling g mk a) := ⟨⟨h.1.1, h.1.2.blind⟩, sO.moved (u := U) (U := U.calling g mk a) (Vm.Alike.refl U.vm) h.2⟩
theorem xT0.go {D : va_G} {cI cJ cZ : ClassId} {h0 : Nat} {ad : Nat → Nat} {S : MS} {A : Nat → Prop} {s : State} {H : Heap} {locs : List Loc} (hT : sAll h0 s) (hA0 : ∀ a : Nat, A a → h0 ≤ a) (hA : ∀ q : Nat, s.heap.size ≤ q → A q) (G : mG D cI cJ cZ ad A s.heap H locs S) (U : State) (hU : U.heap = H) (hW : s.WarmedH U.vm) : xT0 cI cJ cZ h0 ad S H.size U :=
  ⟨fun a h => hA0 a (va_free (wc := MW cI cJ cZ ad S) G.2.1 G.2.2 hA [0, 1, 2, 3, 4, 5, 6, 7, 8, 9, 10, 11, 12, 13, 14, 15, 16] rfl a h), hT.moved hA0 G.2.2 hU hW⟩
theorem xT1.go {D : va_G} {cI cJ cZ : ClassId} {h0 : Nat} {ad : Nat → Nat} {S : MS} {A : Nat → Prop} {s : State} {H : Heap} {locs : List Loc} {tx : Nat × (Nat → Int32)} {q : Nat} (hT : sAll h0 s) (hA0 : ∀ a : Nat, A a → h0 ≤ a) (hA : ∀ q : Nat, s.heap.size ≤ q → A q) (G : mG D cI cJ cZ ad A s.heap H locs S) (hO : sO tx q (fun a => h0 ≤ a) s s.heap) (U : State) (hU : U.heap = H) (hW : s.WarmedH U.vm) : xT1 cI cJ cZ h0 ad S tx q H.size U :=
  ⟨xT0.go hT hA0 hA G U hU hW, by rw [hU]; exact sO.moved hW.alike (hO.kept (fun a h1 h2 => G.2.2.2.1 a h1 (fun h3 => h2 (hA0 a h3))))⟩
theorem sO.recv {tx : Nat × (Nat → Int32)} {q h0 : Nat} {A : Nat → Prop} {s : State} {H : Heap} {locs : List Loc} (hO : sO tx q (fun a => h0 ≤ a) s s.heap) (hA0 : ∀ a : Nat, A a → h0 ≤ a) (hS : va_S A s.heap H locs) : ∃ cell : Cell, H[q]? = some cell ∧ cell.vm.isStatics = false ∧ s.vm.findClass RJ0 = some cell.cls := by
  obtain ⟨v, h1, -⟩ := hO.kept (fun a h1 h2 => hS.2.1 a h1 (fun h3 => h2 (hA0 a h3)))
  obtain ⟨cell, g1, g2, g3, -⟩ := h1
  exact ⟨cell, g1, g2, g3⟩
theorem sP.go {tx : Nat × (Nat → Int32)} {q h0 : Nat} {A : Nat → Prop} {s : State} {H : Heap} {locs : List Loc} (hO : sO tx q (fun a => h0 ≤ a) s s.heap) (hZ : sZ (fun a => h0 ≤ a) s s.heap) (hA0 : ∀ a : Nat, A a → h0 ≤ a) (hS : va_S A s.heap H locs) (U : State) (hU : U.heap = H) (hW : s.WarmedH U.vm) : sP tx q U := by
  have hk : ∀ a : Nat, a < s.heap.size → ¬ h0 ≤ a → H[a]? = s.heap[a]? := fun a h1 h2 => hS.2.1 a h1 (fun h3 => h2 (hA0 a h3))
  exact ⟨by rw [hU]; exact (sO.moved hW.alike (hO.kept hk)).narrow (fun _ h => h.elim), by rw [hU]; exact (sZ.moved hW.alike (hZ.kept hk)).narrow (fun _ h => h.elim)⟩
abbrev mCiX (l : Launch) (y : MethodName) (ws : List Cond) (fr lo : Nat) (D : va_G) (cI cJ cZ : ClassId) (ad : Nat → Nat) (S : MS) (As : List Value) (X : Nat → State → Prop) (post : Int32 → MS → Prop) : Prop := ∀ sz : Nat, Met l y ws { frames := fr, cells := 0, slots := 0, locals := lo } (va_Pc (.ref (ad 0) :: As) (fun U => mB D cI cJ cZ ad S sz U ∧ X sz U)) (va_Qi post (mAt D cI cJ cZ ad (va_A (MW cI cJ cZ ad S) sz)) (va_A (MW cI cJ cZ ad S) sz)) 0 0 (va_A (MW cI cJ cZ ad S) sz)
theorem m_calliX {p : Program} {l : Launch} {e : Env} {R : Room} {s : State} {m : MethodId} {args : Array Value} {below : List Frame} {meth : Method} {c : Code} {H : Heap} {locs : List Loc} {cells slots : Nat} {Q : State → Prop} {cc : ByteArray} {pc : Nat} {ls : Array Slot} {rest : List Value} {D : va_G} {A : Nat → Prop} {H0 : Heap} {Ts : List Cond} {cI cJ cZ : ClassId} {ad : Nat → Nat} {S : MS} {y : MethodName} {bytes : ByteArray} {maxL nL n index fr lo : Nat} {ret : Option FieldType} {ws : List Cond} {As : List Value} {X : Nat → State → Prop} {post : Int32 → MS → Prop} (E : mE p c cc s m args Ts D cI cJ cZ) (G : mG D cI cJ cZ ad A H0 H locs S) (hA : ∀ q, H0.size ≤ q → A q) (hR : sR s) (hml : c.maxLocals = nL) (hM : mCiX l y ws fr lo D cI cJ cZ ad S As X post) (cw : CallW R s args RX12 RX12 index y bytes maxL ret ws { frames := fr, cells := 0, slots := 0, locals := lo } 0 0 n) (hn : As.length = n) (hsz : ls.size = nL) {st : List Value} (hst : st = As.reverse ++ .ref (ad 0) :: rest) (hW : 2 * (F0 m pc ls st).monitorRoom + (rest.map fun v => v.category).sum ≤ 8) (hdg : decode cc pc = .ok (.invokevirtual index, 3)) (hf : cells ≤ R.cells ∧ slots ≤ R.slots) (hXb : ∀ (sz : Nat) (a : Array Value) (U : State) (g : JFrame) (mk : MethodId), X sz U → X sz (U.calling g mk a)) (hXp : ∀ U : State, U.heap = H → s.WarmedH U.vm → X H.size U) (kk : ∀ (r : Int32) (S1 : MS) (H1 : Heap) (locs1 : List Loc), post r S1 → mG D cI cJ cZ ad A H0 H1 locs1 S1 → W p l e R s m args below meth c H1 locs1 cells slots Q (F0 m (pc + 3) ls (.int r :: rest))) : W p l e R s m args below meth c H locs cells slots Q (F0 m pc ls st) := by
  obtain ⟨hx, hb, hts, hown, hK, hin⟩ := E
  obtain ⟨hP, hD, hS⟩ := G
  have hFc := va_free (wc := MW cI cJ cZ ad S) hD hS hA [0, 1, 2, 3, 4, 5, 6, 7, 8, 9, 10, 11, 12, 13, 14, 15, 16] rfl
  refine va_calli (va_runV (As := As) (rest := rest) ⟨hx, hb, hml, hown, hts⟩ (hM H.size) cw ⟨fun a U g mk q => by obtain ⟨q0, ⟨q1, qP, qK, qD, qR⟩, qX⟩ := q; exact ⟨q0, ⟨q1, qP, va_K.moved (u := U) (U := U.calling g mk a) (Vm.Alike.refl U.vm) qK, qD, qR.blind⟩, hXb _ _ _ _ _ qX⟩, va_recv hK hP (ci := 12) (q0 := 0) rfl rfl, fun U hU hW => ⟨rfl, ⟨by rw [hU], by rw [hU]; exact hP, va_K.moved hW.alike hK, hD.weaken (fun _ _ _ _ => trivial), hR.warm hW⟩, hXp U hU hW⟩⟩ rfl hn hsz hst hW hdg hf) hS (fun q _ h => hFc q h) hFc (fun r u t H1 locs1 ht hvm hw hB hz1 hk1 hS => ?_)
  obtain ⟨hP1, hK1, hD1⟩ := hB
  rw [ht] at hP1
  obtain ⟨hP2, hD2⟩ := va_join (wr := []) (w1 := MW cI cJ cZ ad u) hP hD [0, 1, 2, 3, 4, 5, 6, 7, 8, 9, 10, 11, 12, 13, 14, 15, 16] [] rfl rfl (by decide) (by decide) hk1 hFc hP1 hD1
  exact kk r u H1 locs1 hw ⟨hP2, hD2, hS⟩
abbrev mCvX (l : Launch) (y : MethodName) (ws : List Cond) (fr lo : Nat) (D : va_G) (cI cJ cZ : ClassId) (ad : Nat → Nat) (S : MS) (As : List Value) (X : Nat → State → Prop) (post : MS → Prop) : Prop := ∀ sz : Nat, Met l y ws { frames := fr, cells := 0, slots := 0, locals := lo } (va_Pc (.ref (ad 0) :: As) (fun U => mB D cI cJ cZ ad S sz U ∧ X sz U)) (va_Qv post (mAt D cI cJ cZ ad (va_A (MW cI cJ cZ ad S) sz)) (va_A (MW cI cJ cZ ad S) sz)) 0 0 (va_A (MW cI cJ cZ ad S) sz)
theorem m_callvX {p : Program} {l : Launch} {e : Env} {R : Room} {s : State} {m : MethodId} {args : Array Value} {below : List Frame} {meth : Method} {c : Code} {H : Heap} {locs : List Loc} {cells slots : Nat} {Q : State → Prop} {cc : ByteArray} {pc : Nat} {ls : Array Slot} {rest : List Value} {D : va_G} {A : Nat → Prop} {H0 : Heap} {Ts : List Cond} {cI cJ cZ : ClassId} {ad : Nat → Nat} {S : MS} {y : MethodName} {bytes : ByteArray} {maxL nL n index fr lo : Nat} {ret : Option FieldType} {ws : List Cond} {As : List Value} {X : Nat → State → Prop} {post : MS → Prop} (E : mE p c cc s m args Ts D cI cJ cZ) (G : mG D cI cJ cZ ad A H0 H locs S) (hA : ∀ q, H0.size ≤ q → A q) (hR : sR s) (hml : c.maxLocals = nL) (hM : mCvX l y ws fr lo D cI cJ cZ ad S As X post) (cw : CallW R s args RX12 RX12 index y bytes maxL ret ws { frames := fr, cells := 0, slots := 0, locals := lo } 0 0 n) (hn : As.length = n) (hsz : ls.size = nL) {st : List Value} (hst : st = As.reverse ++ .ref (ad 0) :: rest) (hW : 2 * (F0 m pc ls st).monitorRoom + (rest.map fun v => v.category).sum ≤ 8) (hdg : decode cc pc = .ok (.invokevirtual index, 3)) (hf : cells ≤ R.cells ∧ slots ≤ R.slots) (hXb : ∀ (sz : Nat) (a : Array Value) (U : State) (g : JFrame) (mk : MethodId), X sz U → X sz (U.calling g mk a)) (hXp : ∀ U : State, U.heap = H → s.WarmedH U.vm → X H.size U) (kk : ∀ (S1 : MS) (H1 : Heap) (locs1 : List Loc), post S1 → mG D cI cJ cZ ad A H0 H1 locs1 S1 → W p l e R s m args below meth c H1 locs1 cells slots Q (F0 m (pc + 3) ls rest)) : W p l e R s m args below meth c H locs cells slots Q (F0 m pc ls st) := by
  obtain ⟨hx, hb, hts, hown, hK, hin⟩ := E
  obtain ⟨hP, hD, hS⟩ := G
  have hFc := va_free (wc := MW cI cJ cZ ad S) hD hS hA [0, 1, 2, 3, 4, 5, 6, 7, 8, 9, 10, 11, 12, 13, 14, 15, 16] rfl
  refine va_callv (va_runV (As := As) (rest := rest) ⟨hx, hb, hml, hown, hts⟩ (hM H.size) cw ⟨fun a U g mk q => by obtain ⟨q0, ⟨q1, qP, qK, qD, qR⟩, qX⟩ := q; exact ⟨q0, ⟨q1, qP, va_K.moved (u := U) (U := U.calling g mk a) (Vm.Alike.refl U.vm) qK, qD, qR.blind⟩, hXb _ _ _ _ _ qX⟩, va_recv hK hP (ci := 12) (q0 := 0) rfl rfl, fun U hU hW => ⟨rfl, ⟨by rw [hU], by rw [hU]; exact hP, va_K.moved hW.alike hK, hD.weaken (fun _ _ _ _ => trivial), hR.warm hW⟩, hXp U hU hW⟩⟩ rfl hn hsz hst hW hdg hf) hS (fun q _ h => hFc q h) hFc (fun u t H1 locs1 ht hvm hw hB hz1 hk1 hS => ?_)
  obtain ⟨hP1, hK1, hD1⟩ := hB
  rw [ht] at hP1
  obtain ⟨hP2, hD2⟩ := va_join (wr := []) (w1 := MW cI cJ cZ ad u) hP hD [0, 1, 2, 3, 4, 5, 6, 7, 8, 9, 10, 11, 12, 13, 14, 15, 16] [] rfl rfl (by decide) (by decide) hk1 hFc hP1 hD1
  exact kk u H1 locs1 hw ⟨hP2, hD2, hS⟩
