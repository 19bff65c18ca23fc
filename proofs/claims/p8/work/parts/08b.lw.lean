theorem glA {cw : Cond} {L : List Cond} (hL : ∀ w ∈ L, w ∈ lw_tbl ∧ goodWord w = true) (hc : cw ∈ lw_tbl ∧ goodWord cw = true) : GoodIn lw_tbl (L ++ (cw :: wsA)) := by
  intro w hw
  have hm : w ∈ lw_tbl ∧ goodWord w = true := by
    rcases List.mem_append.mp hw with h | h
    · exact hL w h
    · rcases List.mem_cons.mp h with rfl | h
      · exact hc
      · exact ⟨tA w h, gA w h⟩
  exact ⟨hm.1, good_of_word hm.2⟩
theorem glM {cw : Cond} {L : List Cond} (hL : ∀ w ∈ L, w ∈ lw_tbl ∧ goodWord w = true) (hc : cw ∈ lw_tbl ∧ goodWord cw = true) : GoodIn lw_tbl (L ++ (cw :: wsM)) := by
  intro w hw
  have hm : w ∈ lw_tbl ∧ goodWord w = true := by
    rcases List.mem_append.mp hw with h | h
    · exact hL w h
    · rcases List.mem_cons.mp h with rfl | h
      · exact hc
      · exact ⟨tM w h, gM w h⟩
  exact ⟨hm.1, good_of_word hm.2⟩
/-- the law's world at a point of its walk -/
def lG (D : va_G) (ad : Nat → Nat) (N : Nat) (cI cJ cZ : ClassId) (am : Nat → Nat) (A : Nat → Prop) (H0 H : Heap) (locs : List Loc) (S : Nat → va_E) (Sm : MS) : Prop := va_P D vwCl (cW ad N S ++ MW cI cJ cZ am Sm) H ∧ va_D A (cW ad N S ++ MW cI cJ cZ am Sm) ∧ va_S A H0 H locs
theorem l_allC (ad : Nat → Nat) (N : Nat) (S : Nat → va_E) (w2 : va_W) : (List.range N).map (fun i => (cW ad N S ++ w2)[i]?) = (cW ad N S).map some := by
  rw [← cW_all ad N S]
  refine List.map_congr_left (fun i hi => ?_)
  exact List.getElem?_append_left (by rw [cW_len]; exact List.mem_range.mp hi)
theorem l_allM (ad : Nat → Nat) (N : Nat) (S : Nat → va_E) (w2 : va_W) : ((List.range w2.length).map (fun j => N + j)).map (fun i => (cW ad N S ++ w2)[i]?) = w2.map some := by
  refine List.ext_getElem? (fun i => ?_)
  rw [List.map_map, List.getElem?_map, List.getElem?_map]
  by_cases h : i < w2.length
  · rw [List.getElem?_range h]
    show some ((cW ad N S ++ w2)[N + i]?) = (w2[i]?).map some
    rw [List.getElem?_append_right (by rw [cW_len]; exact Nat.le_add_right _ _), cW_len, Nat.add_sub_cancel_left, List.getElem?_eq_getElem h]
    rfl
  · rw [List.getElem?_eq_none (by rw [List.length_range]; exact Nat.not_lt.mp h), List.getElem?_eq_none (Nat.not_lt.mp h)]
    rfl
theorem l_ndM (N K : Nat) : va_nd ((List.range K).map (fun j => N + j)) = true := va_nd_of _ (List.pairwise_map.mpr (List.Pairwise.imp (fun h e => h (Nat.add_left_cancel e)) List.nodup_range))
theorem l_disM {N K : Nat} : ∀ i ∈ (List.range K).map (fun j => N + j), i ∉ List.range N := by
  intro i hi hn
  obtain ⟨j, -, rfl⟩ := List.mem_map.mp hi
  exact absurd (List.mem_range.mp hn) (by omega)
theorem l_disC {N K : Nat} : ∀ i ∈ List.range N, i ∉ (List.range K).map (fun j => N + j) := by
  intro i hi hn
  obtain ⟨j, -, rfl⟩ := List.mem_map.mp hn
  exact absurd (List.mem_range.mp hi) (by omega)
theorem l_fm {l ws : List (Nat × va_E)} {is : List Nat} (h : is.map (fun i => l[i]?) = ws.map some) : is.filterMap (fun i => l[i]?) = ws := by
  have h1 : is.filterMap (fun i => l[i]?) = (is.map (fun i => l[i]?)).filterMap id := by rw [List.filterMap_map]; rfl
  rw [h1, h, List.filterMap_map]
  exact List.filterMap_some
section LWR
variable {p : Program} {l : Launch} {e : Env} {R : Room} {s : State} {m : MethodId} {args : Array Value} {below : List Frame} {meth : Method} {c : Code} {H : Heap} {locs : List Loc} {cells slots : Nat} {Q : State → Prop}
variable {cc : ByteArray} {pc : Nat} {ls : Array Slot} {rest : List Value} {D : va_G} {A : Nat → Prop} {H0 : Heap} {Ts : List Cond} {tys : List (ClassId × FieldType)} {ad am : Nat → Nat} {N : Nat} {S : Nat → va_E} {Sm : MS} {cI cJ cZ : ClassId} {own : String}
end LWR
