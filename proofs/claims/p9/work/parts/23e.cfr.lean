/-! what of the cells of states the class changes when it records anew or cleans -/
section
variable {T T1 : AT} {d s : Nat}
/-- the roles of a part of the cells -/
def pZ (Z : Nat → Bool) (n : Nat) : Nat := bif Z n then aR0 n else 30
theorem pZ_or (Z : Nat → Bool) (n : Nat) : pZ Z n = aR0 n ∨ pZ Z n = 30 := by
  unfold pZ
  cases Z n with
  | true => exact .inl rfl
  | false => exact .inr rfl
theorem pZ_t {Z : Nat → Bool} {n : Nat} (h : Z n = true) : pZ Z n = aR0 n := by unfold pZ; rw [h]; rfl
theorem pZ_f {Z : Nat → Bool} {n : Nat} (h : Z n = false) : pZ Z n = 30 := by unfold pZ; rw [h]; rfl
def zck (Z : Nat → Bool) (n : Nat) : Bool := (Nat.beq (aR0 n) 30 || isRW (aR0 n)) || (okc n && (List.range 150).all (fun k => Nat.beq (rtg (aR0 n) k) 99 || (match (arf n).getD k none with | some q => Z q | none => true)))
theorem rtg_rw {r k : Nat} (h : isRW r = true) (h9 : rtg r k ≠ 99) : rtg r k = 30 := by
  have hw : isW r = false := by
    unfold isRW at h
    unfold isW
    obtain ⟨a, b⟩ := (Bool.and_eq_true _ _).mp h
    have a := Nat.le_of_ble_eq_true a
    cases e : Nat.ble r 105 with
    | false => exact Bool.and_false _
    | true => have := Nat.le_of_ble_eq_true e; omega
  unfold rtg at h9 ⊢
  rw [hw, h] at h9 ⊢
  cases e : Nat.blt k 40 with
  | true => rfl
  | false => rw [e] at h9; exact absurd rfl h9
theorem iv_pZ {Z : Nat → Bool} {L : List Nat} (h : CRF T) (hV : IV aR0 1586 aK1 aK2 T) (hc : L.all (zck Z) = true) (hL : ∀ n, Z n = true → n ∈ L) : IV (pZ Z) 1586 (T.1 + zt (pZ Z) T w1 1586) (sg T + zt (pZ Z) T wC 1586) T := by
  refine iv_sub hV (pZ_or Z) (fun n k hn hk q hq => ?_)
  have zn : Z n = true := by
    cases e : Z n with
    | true => rfl
    | false => exact absurd (pZ_f e) hn
  rw [pZ_t zn] at hn hk
  have d := List.all_eq_true.mp hc n (hL n zn)
  unfold zck at d
  rw [nbeq hn, Bool.false_or] at d
  rcases (Bool.or_eq_true _ _).mp d with d | d
  · have st : sta aR0 1586 n := iv_sta hV rfl (fun e => by rw [e] at d; cases d) hn
    obtain ⟨q', e', -, hR⟩ := hV.2.2.1 n k st hk
    rw [hq] at e'
    cases e'
    rw [rtg_rw d hk] at hR
    rcases pZ_or Z q with u | u
    · exact u
    · rw [u, hR]
  · obtain ⟨d1, d2⟩ := (Bool.and_eq_true _ _).mp d
    by_cases h150 : k < 150
    · have d3 : (Nat.beq (rtg (aR0 n) k) 99 || (match (arf n).getD k none with | some q => Z q | none => true)) = true := a_fin (p := fun k => Nat.beq (rtg (aR0 n) k) 99 || (match (arf n).getD k none with | some q => Z q | none => true)) d2 h150
      rw [nbeq hk, Bool.false_or, ← h.at n d1 k, hq] at d3
      exact pZ_t d3
    · exact absurd (rtg_hi (Nat.not_lt.mp h150)) hk
def zbt (a b n : Nat) : Bool := Nat.ble a n && Nat.blt n b
theorem zbt_t {a b n : Nat} : zbt a b n = true ↔ a ≤ n ∧ n < b := by
  unfold zbt
  rw [Bool.and_eq_true]
  exact ⟨fun ⟨x, y⟩ => ⟨Nat.le_of_ble_eq_true x, Nat.le_of_ble_eq_true y⟩, fun ⟨x, y⟩ => ⟨Nat.ble_eq_true_of_le x, Nat.ble_eq_true_of_le y⟩⟩
/-- recorder, scene and one state -/
def zRec (s d n : Nat) : Bool := (zbt 7 22 n || zbt s (s + 178) n) || zbt d (d + 94) n
def zRecL (s d : Nat) : List Nat := (List.range 15).map (7 + ·) ++ (List.range 178).map (s + ·) ++ (List.range 94).map (d + ·)
theorem mem_rg {a l n : Nat} (h1 : a ≤ n) (h2 : n < a + l) : n ∈ (List.range l).map (a + ·) := List.mem_map.mpr ⟨n - a, List.mem_range.mpr (by omega), by omega⟩
theorem zRec_L {n : Nat} (h : zRec s d n = true) : n ∈ zRecL s d := by
  unfold zRec at h
  unfold zRecL
  rcases (Bool.or_eq_true _ _).mp h with h | h
  · rcases (Bool.or_eq_true _ _).mp h with h | h
    · obtain ⟨a, b⟩ := zbt_t.mp h
      exact List.mem_append_left _ (List.mem_append_left _ (mem_rg a (by omega)))
    · obtain ⟨a, b⟩ := zbt_t.mp h
      exact List.mem_append_left _ (List.mem_append_right _ (mem_rg a b))
  · obtain ⟨a, b⟩ := zbt_t.mp h
    exact List.mem_append_right _ (mem_rg a b)
set_option maxRecDepth 100000 in
set_option maxHeartbeats 4000000 in
theorem zRec_ck : [478, 656].all (fun s => [242, 336].all (fun d => (zRecL s d).all (zck (zRec s d)))) = true := by decide +kernel
theorem iv_rec (h : CRF T) (hV : IV aR0 1586 aK1 aK2 T) (hs : s = 478 ∨ s = 656) (hd : d = 242 ∨ d = 336) : IV (pZ (zRec s d)) 1586 (T.1 + zt (pZ (zRec s d)) T w1 1586) (sg T + zt (pZ (zRec s d)) T wC 1586) T := by
  refine iv_pZ h hV ?_ (fun n => zRec_L)
  have q := List.all_eq_true.mp zRec_ck s (by rcases hs with e | e <;> rw [e] <;> decide)
  exact List.all_eq_true.mp q d (by rcases hd with e | e <;> rw [e] <;> decide)
theorem zRec_ro (hs : s = 478 ∨ s = 656) (hd : d = 242 ∨ d = 336) : pZ (zRec s d) 7 = 5 ∧ pZ (zRec s d) s = 6 ∧ pZ (zRec s d) d = 8 := by
  have r7 : aR0 7 = 5 := by decide +kernel
  have rd : aR0 d = 8 := by rcases hd with e | e <;> rw [e] <;> decide +kernel
  refine ⟨(pZ_t ?_).trans r7, (pZ_t ?_).trans (rsrole hs), (pZ_t ?_).trans rd⟩
  · unfold zRec
    rw [show zbt 7 22 7 = true from rfl]
    rfl
  · unfold zRec
    rw [zbt_t.mpr ⟨Nat.le_refl s, by omega⟩, Bool.or_true]
    rfl
  · unfold zRec
    rw [zbt_t.mpr ⟨Nat.le_refl d, by omega⟩, Bool.or_true]
theorem zRec_out {m : Nat} (h : ¬ (7 ≤ m ∧ m < 22)) (h1 : ¬ (s ≤ m ∧ m < s + 178)) (h2 : ¬ (d ≤ m ∧ m < d + 94)) : pZ (zRec s d) m = 30 := by
  refine pZ_f ?_
  unfold zRec
  have f := fun {a b : Nat} (h : ¬ (a ≤ m ∧ m < b)) => show zbt a b m = false from Bool.eq_false_iff.mpr (fun q => h (zbt_t.mp q))
  rw [f h, f h1, f h2]
  rfl
/-- what recording changes of numbers: only recorder, scene and this state -/
theorem rec_out (hc : CRF T) (hV : IV aR0 1586 aK1 aK2 T) (hs : s = 478 ∨ s = 656) (hd : d = 242 ∨ d = 336) (h : g_X5_record T 7 s d = some T1) : (∀ m k, ¬ (7 ≤ m ∧ m < 22) → ¬ (s ≤ m ∧ m < s + 178) → ¬ (d ≤ m ∧ m < d + 94) → T1.2.2.1 m k = T.2.2.1 m k) ∧ IV aR0 1586 aK1 aK2 T1 ∧ FW aR0 [258, 1472, 3202] T T1 := by
  obtain ⟨r7, rs, rd⟩ := zRec_ro hs hd
  have c := tgo (cs_X5_record (R := pZ (zRec s d)) T 7 s d (iv_rec hc hV hs hd) r7 rs rd) h
  have c0 := tgo (cs_X5_record T 7 s d hV (by decide +kernel) (rsrole hs) (by rcases hd with e | e <;> rw [e] <;> decide +kernel)) h
  exact ⟨fun m k a b e => c.2 m k (by rw [zRec_out a b e]; rfl), c0.1, c0.2⟩
theorem rp_out {a b : Int32} (hc : CRF T) (hV : IV aR0 1586 aK1 aK2 T) (hs : s = 478 ∨ s = 656) (ha : 0 ≤ a.toInt ∧ a.toInt ≤ 143) (hb : 2 ≤ b.toInt ∧ b.toInt ≤ 99) (h : g_X5_recordPoint T 7 s 336 a b = some T1) : (∀ m k, ¬ (7 ≤ m ∧ m < 22) → ¬ (s ≤ m ∧ m < s + 178) → ¬ (336 ≤ m ∧ m < 430) → T1.2.2.1 m k = T.2.2.1 m k) ∧ IV aR0 1586 aK1 aK2 T1 ∧ FW aR0 [224, 229, 230, 258, 1472, 3202] T T1 := by
  obtain ⟨r7, rs, rd⟩ := zRec_ro hs (.inr rfl : 336 = 242 ∨ 336 = 336)
  have c := tgo (cs_X5_recordPoint (R := pZ (zRec s 336)) T 7 s 336 a b (iv_rec hc hV hs (.inr rfl)) r7 rs rd ha hb) h
  have c0 := tgo (cs_X5_recordPoint T 7 s 336 a b hV (by decide +kernel) (rsrole hs) (by decide +kernel) ha hb) h
  exact ⟨fun m k a b e => c.2 m k (by rw [zRec_out a b e]; rfl), c0.1, c0.2⟩
/-- behind a recording no cleaning is counted -/
theorem c_fin9 {o : Nat} : ∀ (n : Nat) (T : AT) (l3 : Int32), g_X5_finish_b9 n T o s d l3 = some T1 → T1.2.2.1 d 2 = 0 := by
  intro n
  induction n with
  | zero => intro T l3 h; cases h
  | succ n ih =>
    have b20 : ∀ (f : Nat) (T : AT) (l3 l4 : Int32), g_X5_finish_b20 (g_X5_finish_b9 n) f T o s d l3 l4 = some T1 → T1.2.2.1 d 2 = 0 := by
      intro f
      induction f with
      | zero => intro T l3 l4 h; cases h
      | succ f ih2 =>
        have b55 : ∀ {T : AT} {s0 l3 l4 : Int32}, g_X5_finish_b55 (g_X5_finish_b9 n) (g_X5_finish_b20 (g_X5_finish_b9 n) f) T s0 o s d l3 l4 = some T1 → T1.2.2.1 d 2 = 0 := by
          intro T s0 l3 l4 h
          unfold g_X5_finish_b55 at h
          obtain ⟨-, h⟩ := oif_some h
          obtain ⟨n3, -, h⟩ := obind_some h
          obtain ⟨r4, -, h⟩ := obind_some h
          obtain ⟨-, h⟩ := oif_some h
          obtain ⟨v7, -, h⟩ := elet_some h
          obtain ⟨v8, -, h⟩ := elet_some h
          obtain ⟨-, h⟩ := oif_some h
          obtain ⟨v10, -, h⟩ := elet_some h
          obtain ⟨v11, -, h⟩ := elet_some h
          obtain ⟨v12, -, h⟩ := elet_some h
          obtain ⟨-, h⟩ := oif_some h
          obtain ⟨T14, -, h⟩ := obind_some h
          unfold g_X5_finish_b87 at h
          obtain ⟨v2, -, h⟩ := elet_some h
          exact ih2 _ _ _ h
        intro T l3 l4 h
        unfold g_X5_finish_b20 at h
        obtain ⟨-, h⟩ := oif_some h
        obtain ⟨v3, -, h⟩ := elet_some h
        rcases oif_or h with ⟨-, h⟩ | ⟨-, h⟩
        · obtain ⟨v5, -, h⟩ := elet_some h
          exact ih _ _ h
        · obtain ⟨-, h⟩ := oif_some h
          obtain ⟨v7, -, h⟩ := elet_some h
          rcases oif_or h with ⟨-, h⟩ | ⟨-, h⟩
          · obtain ⟨-, h⟩ := oif_some h
            obtain ⟨r12, T10, -, h⟩ := obind2_some h
            exact b55 h
          · obtain ⟨-, h⟩ := oif_some h
            obtain ⟨r12, T10, -, h⟩ := obind2_some h
            exact b55 h
    intro T l3 h
    unfold g_X5_finish_b9 at h
    obtain ⟨-, h⟩ := oif_some h
    obtain ⟨v3, -, h⟩ := elet_some h
    rcases oif_or h with ⟨-, h⟩ | ⟨-, h⟩
    · obtain ⟨-, h⟩ := oif_some h
      obtain ⟨T6, e6, h⟩ := elet_some h
      rw [← osome1 h, e6, ui_at]
    · exact b20 _ _ _ _ h
theorem c_rec0 {o : Nat} (h : g_X5_record T o s d = some T1) : T1.2.2.1 d 2 = 0 := by
  have fin : ∀ {U U1 : AT}, g_X5_finish U o s d = some U1 → U1.2.2.1 d 2 = 0 := by
    intro U U1 h
    unfold g_X5_finish at h
    obtain ⟨-, h⟩ := oif_some h
    obtain ⟨n3, -, h⟩ := obind_some h
    obtain ⟨-, h⟩ := oif_some h
    obtain ⟨T5, -, h⟩ := obind_some h
    exact c_fin9 _ _ _ h
  have b6 : ∀ (n : Nat) (T : AT) (l3 : Int32), g_X5_record_b6 n T o s d l3 = some T1 → T1.2.2.1 d 2 = 0 := by
    intro n
    induction n with
    | zero => intro T l3 h; cases h
    | succ n ih =>
      have b92 : ∀ {T : AT} {l3 : Int32}, g_X5_record_b92 (g_X5_record_b6 n) T o s d l3 = some T1 → T1.2.2.1 d 2 = 0 := by
        intro T l3 h
        unfold g_X5_record_b92 at h
        obtain ⟨v2, -, h⟩ := elet_some h
        exact ih _ _ h
      have b34 : ∀ (f : Nat) (T : AT) (l3 : Int32) (l4 : Nat) (l5 : Int32), g_X5_record_b34 (g_X5_record_b6 n) f T o s d l3 l4 l5 = some T1 → T1.2.2.1 d 2 = 0 := by
        intro f
        induction f with
        | zero => intro T l3 l4 l5 h; cases h
        | succ f ih2 =>
          intro T l3 l4 l5 h
          unfold g_X5_record_b34 at h
          obtain ⟨-, h⟩ := oif_some h
          obtain ⟨v3, -, h⟩ := elet_some h
          rcases oif_or h with ⟨-, h⟩ | ⟨-, h⟩
          · exact b92 h
          · obtain ⟨-, h⟩ := oif_some h
            obtain ⟨n6, -, h⟩ := obind_some h
            obtain ⟨-, h⟩ := oif_some h
            obtain ⟨-, h⟩ := oif_some h
            obtain ⟨v9, -, h⟩ := elet_some h
            obtain ⟨-, h⟩ := oif_some h
            obtain ⟨n11, -, h⟩ := obind_some h
            obtain ⟨-, h⟩ := oif_some h
            obtain ⟨-, h⟩ := oif_some h
            obtain ⟨v14, -, h⟩ := elet_some h
            obtain ⟨r15, -, h⟩ := obind_some h
            obtain ⟨-, h⟩ := oif_some h
            obtain ⟨n18, -, h⟩ := obind_some h
            obtain ⟨-, h⟩ := oif_some h
            obtain ⟨-, h⟩ := oif_some h
            obtain ⟨v21, -, h⟩ := elet_some h
            obtain ⟨-, h⟩ := oif_some h
            obtain ⟨n23, -, h⟩ := obind_some h
            obtain ⟨-, h⟩ := oif_some h
            obtain ⟨-, h⟩ := oif_some h
            obtain ⟨v26, -, h⟩ := elet_some h
            obtain ⟨r27, -, h⟩ := obind_some h
            obtain ⟨-, h⟩ := oif_some h
            obtain ⟨T30, -, h⟩ := obind_some h
            obtain ⟨v32, -, h⟩ := elet_some h
            exact ih2 _ _ _ _ h
      intro T l3 h
      unfold g_X5_record_b6 at h
      obtain ⟨-, h⟩ := oif_some h
      obtain ⟨v3, -, h⟩ := elet_some h
      rcases oif_or h with ⟨-, h⟩ | ⟨-, h⟩
      · obtain ⟨-, h⟩ := oif_some h
        obtain ⟨T6, g6, h⟩ := obind_some h
        rw [← osome1 (show some T6 = some T1 from h)]
        exact fin g6
      · obtain ⟨-, h⟩ := oif_some h
        obtain ⟨n9, -, h⟩ := obind_some h
        obtain ⟨-, h⟩ := oif_some h
        obtain ⟨-, h⟩ := oif_some h
        obtain ⟨v12, -, h⟩ := elet_some h
        rcases oif_or h with ⟨-, h⟩ | ⟨-, h⟩
        · exact b92 h
        · obtain ⟨-, h⟩ := oif_some h
          obtain ⟨n15, -, h⟩ := obind_some h
          obtain ⟨-, h⟩ := oif_some h
          obtain ⟨-, h⟩ := oif_some h
          obtain ⟨n18, -, h⟩ := obind_some h
          exact b34 _ _ _ _ _ h
  unfold g_X5_record at h
  obtain ⟨-, h⟩ := oif_some h
  obtain ⟨T3, -, h⟩ := obind_some h
  exact b6 _ _ _ h
/-- a cleaning is counted -/
theorem c_sub53 {a : Nat} {l2 l3 l4 l5 : Int32} {c : Int32} {k18 : AT → Nat → Nat → Int32 → Int32 → Int32 → Int32 → Option AT} (hd : d ∈ sds) (ha : aR0 a = 50) (hk : ∀ {T : AT} {l : Int32}, CRF T → IV aR0 1586 aK1 aK2 T → T.2.2.1 d 2 = c → k18 T d a l2 l3 l4 l = some T1 → T1.2.2.1 d 2 = c + 1) : ∀ (f : Nat) {T : AT} {l6 : Int32}, CRF T → IV aR0 1586 aK1 aK2 T → T.2.2.1 d 2 = c → 0 ≤ l6.toInt → g_X8_subtractBeam_b53 k18 f T d a l2 l3 l4 l5 l6 = some T1 → T1.2.2.1 d 2 = c + 1 := by
  have rd := sd_ro hd
  have z0 : (0 : Int32).toInt = 0 := by decide
  have z1 : (1 : Int32).toInt = 1 := by decide
  have z200 : (200 : Int32).toInt = 200 := by decide
  intro f
  induction f with
  | zero => intro T l6 hc hV e h0 h; cases h
  | succ f ih =>
    have b115 : ∀ {T : AT} {l6 : Int32}, CRF T → IV aR0 1586 aK1 aK2 T → T.2.2.1 d 2 = c → 0 ≤ l6.toInt → l6.toInt ≤ 11 → g_X8_subtractBeam_b115 k18 (g_X8_subtractBeam_b53 k18 f) T d a l2 l3 l4 l5 l6 = some T1 → T1.2.2.1 d 2 = c + 1 := by
      intro T l6 hc hV e h0 h1 h
      unfold g_X8_subtractBeam_b115 at h
      obtain ⟨v2, e2, h⟩ := elet_some h
      have q2 := i_add (y := 1) e2 (by omega) (by omega)
      exact ih hc hV e (by omega) h
    intro T l6 hc hV e h0 h
    obtain ⟨-, -, -, -, -, -, -, d10, d11⟩ := sd_rf hc hd
    unfold g_X8_subtractBeam_b53 at h
    obtain ⟨-, h⟩ := oif_some h
    obtain ⟨v3, e3, h⟩ := elet_some h
    have m3 := iv_int hV rd.1 (by decide) (by decide) e3 (rfl : iR 8 0 = (0, 12))
    rcases oif_or h with ⟨-, h⟩ | ⟨cl, h⟩
    · obtain ⟨v5, -, h⟩ := elet_some h
      exact hk hc hV e h
    · have cl := i_nle cl
      obtain ⟨-, h⟩ := oif_some h
      obtain ⟨-, h⟩ := oif_some h
      obtain ⟨v8, -, h⟩ := elet_some h
      obtain ⟨v9, -, h⟩ := elet_some h
      obtain ⟨-, h⟩ := oif_some h
      obtain ⟨n11, -, h⟩ := obind_some h
      obtain ⟨-, h⟩ := oif_some h
      obtain ⟨-, h⟩ := oif_some h
      obtain ⟨v14, -, h⟩ := elet_some h
      rcases oif_or h with ⟨-, h⟩ | ⟨-, h⟩
      · rcases oif_or h with ⟨-, h⟩ | ⟨c9, h⟩
        · exact b115 hc hV e h0 (by omega) h
        · have c9 := i_nlt c9
          obtain ⟨-, h⟩ := oif_some h
          obtain ⟨v18, e18, h⟩ := elet_some h
          have m18 := iv_int hV rd.1 (by decide) (by decide) e18 (rfl : iR 8 1 = (0, 200))
          rcases oif_or h with ⟨-, h⟩ | ⟨c18, h⟩
          · exact b115 hc hV e h0 (by omega) h
          · have c18 := i_nle c18
            obtain ⟨-, h⟩ := oif_some h
            obtain ⟨n21, en, h⟩ := obind_some h
            rw [d10] at en
            cases en
            obtain ⟨r22, g22, h⟩ := obind_some h
            obtain ⟨-, h⟩ := oif_some h
            obtain ⟨n25, en, h⟩ := obind_some h
            rw [d11] at en
            cases en
            obtain ⟨-, h⟩ := oif_some h
            obtain ⟨T27, g27, h⟩ := obind_some h
            unfold g_X8_placeOf at g22
            obtain ⟨w2, f2, g22⟩ := elet_some g22
            obtain ⟨w3, f3, g22⟩ := elet_some g22
            have q2 := i_mulk2 f2 z200 (by omega) (by omega)
            have q3 := i_add f3 (by omega) (by omega)
            have e22 := osome1 g22
            have ct : (cnt 104 : Int) = 2400 := by decide
            have ct1 : (cnt 101 : Int) = 1 := by decide
            have q := tgo (c_add rd.2.2.2.2.2.2.2.2.1 (by decide) rd.2.2.2.2.2.2.2.2.2 (by decide) hV (by rw [← e22]; omega) (by omega)) g27
            refine b115 (crf_gr hc hV (sr_X10_add g27)) q.1 ?_ h0 (by omega) h
            rw [q.2.1 d 2 (.inl (by omega))]
            exact e
      · exact b115 hc hV e h0 (by omega) h
theorem c_sub18 {a : Nat} {l2 l3 l4 : Int32} {c : Int32} (hd : d ∈ sds) (ha : aR0 a = 50) : ∀ (f : Nat) {T : AT} {l5 : Int32}, CRF T → IV aR0 1586 aK1 aK2 T → T.2.2.1 d 2 = c → g_X8_subtractBeam_b18 f T d a l2 l3 l4 l5 = some T1 → T1.2.2.1 d 2 = c + 1 := by
  have rd := sd_ro hd
  have z0 : (0 : Int32).toInt = 0 := by decide
  have ct1 : (cnt 101 : Int) = 1 := by decide
  intro f
  induction f with
  | zero => intro T l5 hc hV e h; cases h
  | succ f ih =>
    intro T l5 hc hV e h
    unfold g_X8_subtractBeam_b18 at h
    rcases oif_or h with ⟨-, h⟩ | ⟨-, h⟩
    · obtain ⟨-, h⟩ := oif_some h
      obtain ⟨v4, e4, h⟩ := elet_some h
      obtain ⟨v5, e5, h⟩ := elet_some h
      obtain ⟨-, h⟩ := oif_some h
      obtain ⟨T7, e7, h⟩ := elet_some h
      rw [← osome1 h, e7, ui_at, e5, e4, e]
    · obtain ⟨-, h⟩ := oif_some h
      obtain ⟨T9, g9, h⟩ := obind_some h
      have q9 := tgo (cs_X8_focus T d a l5 hV rd.1 ha) g9
      have hc9 := crf_gr hc hV (sr_X8_focus g9)
      unfold g_X8_subtractBeam_b32 at h
      obtain ⟨-, h⟩ := oif_some h
      obtain ⟨n3, en, h⟩ := obind_some h
      rw [(sd_rf hc9 hd).2.2.2.2.2.2.2.2] at en
      cases en
      obtain ⟨-, h⟩ := oif_some h
      obtain ⟨T5, g5, h⟩ := obind_some h
      have q5 := tgo (c_multiply rd.2.2.2.2.2.2.2.2.2 (by decide) q9.1 (by omega)) g5
      have hc5 := crf_gr hc9 q9.1 (sr_X10_multiply g5)
      unfold g_X8_subtractBeam_b41 at h
      obtain ⟨-, h⟩ := oif_some h
      obtain ⟨n3, en, h⟩ := obind_some h
      rw [(sd_rf hc5 hd).2.2.2.2.2.2.2.2] at en
      cases en
      obtain ⟨-, h⟩ := oif_some h
      obtain ⟨T6, g6, h⟩ := obind_some h
      have q6 := tgo (c_divide rd.2.2.2.2.2.2.2.2.2 (by decide) q5.1 (by omega)) g6
      have hc6 := crf_gr hc5 q5.1 (sr_X10_divide g6)
      unfold g_X8_subtractBeam_b50 at h
      refine c_sub53 hd ha (fun {T l} a b e h => ih a b e h) 16384 hc6 q6.1 ?_ (by decide) h
      rw [q6.2.1 d 2 (.inl (by omega)), q5.2.1 d 2 (.inl (by omega)), q9.2 d 2 (by rw [rd.1]; rfl)]
      exact e
theorem c_subtract {a : Nat} {p : Int32} (hc : CRF T) (hV : IV aR0 1586 aK1 aK2 T) (hd : d ∈ sds) (ha : aR0 a = 50) (h : g_X8_subtractBeam T d a p = some T1) : T1.2.2.1 d 2 = T.2.2.1 d 2 + 1 := by
  have rd := (sd_ro hd).1
  unfold g_X8_subtractBeam at h
  obtain ⟨-, h⟩ := oif_some h
  obtain ⟨r5, T3, g3, h⟩ := obind2_some h
  obtain ⟨v7, -, h⟩ := elet_some h
  obtain ⟨-, h⟩ := oif_some h
  obtain ⟨r11, T9, g9, h⟩ := obind2_some h
  have e3 : T3 = T := (tgo (cs_X8_activeWeight T d hV rd) g3).1
  rw [e3] at g9
  have e9 : T9 = T := (tgo (cs_X8_windowOf T d a hV rd ha) g9).1
  rw [e9] at h
  exact c_sub18 hd ha 16384 hc hV rfl h
end
