/-! what of a state's first cells the reference changes when it records anew or cleans -/
section
variable {S S1 : MS} {P : Nat → Int32}
def Low (S S1 : MS) : Prop := ∀ x, x < 55 → S1.2.1 12 x = S.2.1 12 x
theorem Low.rf : Low S S := fun _ _ => rfl
theorem Low.tr {S2 : MS} (h : Low S S1) (k : Low S1 S2) : Low S S2 := fun x hx => (k x hx).trans (h x hx)
theorem Low.eq (h : S1.2.1 12 = S.2.1 12) : Low S S1 := fun x _ => by rw [h]
theorem Low.up {k : Nat} {v : Int32} (hk : 55 ≤ k) : Low S (mf S 12 (upd (S.2.1 12) k v)) := fun x hx => by
  rw [mf_at]
  show (if x = k then v else S.2.1 12 x) = _
  rw [if_neg (by omega)]
theorem l_rec49 {k6 : MS → Int32 → Option MS} {l2 : Int32} (hP : PL P) (h0 : 0 ≤ l2.toInt) (h1 : l2.toInt ≤ 11) (hk : ∀ {S : MS} {l : Int32}, S.2.1 10 = P → l.toInt = l2.toInt + 1 → k6 S l = some S1 → Low S S1) : ∀ (f : Nat) {S : MS} {l3 : Int32}, S.2.1 10 = P → 0 ≤ l3.toInt → fr_records_12_b49 k6 f S l2 l3 = some S1 → Low S S1 := by
  have p2 := pl_2 hP
  have z1 : (1 : Int32).toInt = 1 := by decide
  have z200 : (200 : Int32).toInt = 200 := by decide
  have z55 : (55 : Int32).toInt = 55 := by decide
  intro f
  induction f with
  | zero => intro S l3 e h3 h; cases h
  | succ f ih =>
    intro S l3 e h3 h
    unfold fr_records_12_b49 at h
    obtain ⟨v2, e2, h⟩ := elet_some h
    rw [e] at e2
    rcases oif_or h with ⟨c, h⟩ | ⟨c, h⟩
    · obtain ⟨v4, e4, h⟩ := elet_some h
      exact hk e (i_add (y := 1) e4 (by omega) (by omega)) h
    · have c := i_nle c
      rw [e2] at c
      obtain ⟨v5, e5, h⟩ := elet_some h
      obtain ⟨v6, e6, h⟩ := elet_some h
      obtain ⟨v7, e7, h⟩ := elet_some h
      obtain ⟨r11, S8, f8, h⟩ := obind2_some h
      obtain ⟨r15, S12, f12, h⟩ := obind2_some h
      obtain ⟨-, h⟩ := oif_some h
      obtain ⟨S17, e17, h⟩ := elet_some h
      obtain ⟨v18, e18, h⟩ := elet_some h
      have k8 := w_fr_filtered f8
      have k12 := w_fr_bounded f12
      have q5 := i_mulk e5 z200 (by omega) (by omega)
      have q6 := i_add e6 (by omega) (by omega)
      have q7 := i_add e7 (by omega) (by omega)
      have kk := i_cl (i := v7) (by omega)
      have a12 : S12.2.1 12 = S.2.1 12 := (k12.2 12 (by decide)).trans (k8.2 12 (by decide))
      have e17' : S17.2.1 10 = P := by rw [e17, mf_ne (by decide), k12.2 10 (by decide), k8.2 10 (by decide)]; exact e
      have q18 := i_add (y := 1) e18 (by omega) (by omega)
      refine Low.tr ?_ (ih e17' (by omega) h)
      rw [e17]
      exact (Low.eq a12).tr (Low.up (by omega))
theorem l_rec6 (hP : PL P) : ∀ (f : Nat) {S : MS} {l2 : Int32}, S.2.1 10 = P → 0 ≤ l2.toInt → fr_records_12_b6 f S l2 = some S1 → Low S S1 := by
  have p4 := pl_4 hP
  have z1 : (1 : Int32).toInt = 1 := by decide
  intro f
  induction f with
  | zero => intro S l2 e h0 h; cases h
  | succ f ih =>
    intro S l2 e h0 h
    unfold fr_records_12_b6 at h
    obtain ⟨v2, e2, h⟩ := elet_some h
    rw [e] at e2
    rcases oif_or h with ⟨c, h⟩ | ⟨c, h⟩
    · rw [← osome1 h]
      exact Low.rf
    · have c := i_nle c
      rw [e2] at c
      have b18 : ∀ (g : Nat) {S : MS} {l3 : Int32}, S.2.1 10 = P → fr_records_12_b18 (fr_records_12_b6 f) g S l2 l3 = some S1 → Low S S1 := by
        intro g
        induction g with
        | zero => intro S l3 e h; cases h
        | succ g ihg =>
          intro S l3 e h
          unfold fr_records_12_b18 at h
          obtain ⟨v2, e2, h⟩ := elet_some h
          rcases oif_or h with ⟨-, h⟩ | ⟨-, h⟩
          · exact l_rec49 hP h0 (by omega) (fun {S l} a b q => ih a (by omega) q) 16384 e (by decide) h
          · obtain ⟨r7, S4, f4, h⟩ := obind2_some h
            obtain ⟨-, h⟩ := oif_some h
            obtain ⟨S9, e9, h⟩ := elet_some h
            obtain ⟨v10, e10, h⟩ := elet_some h
            have k4 := w_fr_rawAt_12 f4
            refine Low.tr (Low.eq ?_) (ihg (S := S9) ?_ h)
            · rw [e9, mf_ne (by decide)]; exact k4.2 12 (by decide)
            · rw [e9, mf_ne (by decide), k4.2 10 (by decide)]; exact e
      exact b18 16384 e h
theorem l_records (hP : PL (S.2.1 10)) (h : fr_records_12 S = some S1) : S1.2.1 12 0 = 0 ∧ ∀ x, 1 ≤ x → x < 55 → S1.2.1 12 x = S.2.1 12 x := by
  unfold fr_records_12 at h
  obtain ⟨S2, e2, h⟩ := elet_some h
  have q := l_rec6 (P := S.2.1 10) hP 16384 (S := S2) (l2 := 0) (by rw [e2, mf_ne (by decide)]) (by decide) h
  refine ⟨?_, fun x h1 h2 => ?_⟩
  · rw [q 0 (by decide), e2, mf_at]; rfl
  · rw [q x h2, e2, mf_at]
    show (if x = 0 then (0 : Int32) else S.2.1 12 x) = _
    rw [if_neg (by omega)]
/-- what a cleaning leaves: all but samples, beams and how often -/
def CLR (S S1 : MS) : Prop := (∀ x, 1 ≤ x → x < 55 → S1.2.1 12 x = S.2.1 12 x) ∧ S1.2.1 12 0 = S.2.1 12 0 + 1 ∧ (∀ k, S1.1 k = S.1 k) ∧ ∀ a, a ≠ 12 → a ≠ 29 → S1.2.1 a = S.2.1 a
theorem CLR.lo {S2 : MS} (lo : Low S S2) (f1 : ∀ k, S2.1 k = S.1 k) (f2 : ∀ a, a ≠ 12 → a ≠ 29 → S2.2.1 a = S.2.1 a) (q : CLR S2 S1) : CLR S S1 :=
  ⟨fun x a b => (q.1 x a b).trans (lo x b), q.2.1.trans (by rw [lo 0 (by decide)]), fun k => (q.2.2.1 k).trans (f1 k), fun a x y => (q.2.2.2 a x y).trans (f2 a x y)⟩
theorem CLR.of {S2 : MS} (h : FK [] [] S S2) (q : CLR S2 S1) : CLR S S1 := q.lo (Low.eq (h.2 12 rfl)) (fun k => h.1 k rfl) (fun a _ _ => h.2 a rfl)
theorem l_cl122 {k108 : MS → Int32 → Int32 → Int32 → Int32 → Option (Int32 × MS)} {r l1 l2 l3 l4 : Int32} (h0 : 0 ≤ l4.toInt) (h1 : l4.toInt ≤ 11) (hl : l3.toInt ≤ 200) (hk : ∀ {S : MS} {l : Int32}, S.2.1 10 = P → (∀ k, 0 ≤ (S.2.1 24 k).toInt ∧ (S.2.1 24 k).toInt ≤ 65535) → l.toInt = l4.toInt + 1 → k108 S l1 l2 l3 l = some (r, S1) → CLR S S1) : ∀ (f : Nat) {S : MS} {l5 : Int32}, S.2.1 10 = P → (∀ k, 0 ≤ (S.2.1 24 k).toInt ∧ (S.2.1 24 k).toInt ≤ 65535) → 0 ≤ l5.toInt → fr_clean_b122 k108 f S l1 l2 l3 l4 l5 = some (r, S1) → CLR S S1 := by
  have z1 : (1 : Int32).toInt = 1 := by decide
  have z200 : (200 : Int32).toInt = 200 := by decide
  have z55 : (55 : Int32).toInt = 55 := by decide
  have ex : ∀ {S : MS}, S.2.1 10 = P → (∀ k, 0 ≤ (S.2.1 24 k).toInt ∧ (S.2.1 24 k).toInt ≤ 65535) → fr_clean_b196 k108 S l1 l2 l3 l4 = some (r, S1) → CLR S S1 := by
    intro S e e24 h
    unfold fr_clean_b196 at h
    obtain ⟨v2, e2, h⟩ := elet_some h
    exact hk e e24 (i_add (y := 1) e2 (by omega) (by omega)) h
  intro f
  induction f with
  | zero => intro S l5 e e24 h5 h; cases h
  | succ f ih =>
    intro S l5 e e24 h5 h
    unfold fr_clean_b122 at h
    rcases oif_or h with ⟨c, h⟩ | ⟨c, h⟩
    · exact ex e e24 h
    · have c := i_nle c
      obtain ⟨r6, S3, f3, h⟩ := obind2_some h
      have k3 := w_fr_hears_12 f3
      have e3 : S3.2.1 10 = P := (k3.2 10 (by decide)).trans e
      have e324 : ∀ k, 0 ≤ (S3.2.1 24 k).toInt ∧ (S3.2.1 24 k).toInt ≤ 65535 := fun k => by rw [k3.2 24 (by decide)]; exact e24 k
      rcases oif_or h with ⟨-, h⟩ | ⟨-, h⟩
      · exact CLR.of k3 (ex e3 e324 h)
      · obtain ⟨v8, e8, h⟩ := elet_some h
        obtain ⟨v9, e9, h⟩ := elet_some h
        obtain ⟨v10, e10, h⟩ := elet_some h
        obtain ⟨-, h⟩ := oif_some h
        obtain ⟨v12, e12, h⟩ := elet_some h
        obtain ⟨v13, e13, h⟩ := elet_some h
        obtain ⟨-, h⟩ := oif_some h
        obtain ⟨v15, -, h⟩ := elet_some h
        obtain ⟨-, h⟩ := oif_some h
        obtain ⟨v17, -, h⟩ := elet_some h
        obtain ⟨v18, -, h⟩ := elet_some h
        obtain ⟨v19, -, h⟩ := elet_some h
        obtain ⟨v20, -, h⟩ := elet_some h
        obtain ⟨r24, S21, f21, h⟩ := obind2_some h
        obtain ⟨v25, -, h⟩ := elet_some h
        obtain ⟨v26, -, h⟩ := elet_some h
        obtain ⟨-, h⟩ := oif_some h
        obtain ⟨v28, -, h⟩ := elet_some h
        obtain ⟨v29, -, h⟩ := elet_some h
        obtain ⟨v30, -, h⟩ := elet_some h
        obtain ⟨-, h⟩ := oif_some h
        obtain ⟨S32, e32, h⟩ := elet_some h
        obtain ⟨v33, e33, h⟩ := elet_some h
        have k21 := w_fr_weightOf f21
        have d := e324 l4.toNatClampNeg
        rw [← e12] at d
        have q8 := i_mulk e8 z200 (by omega) (by omega)
        have q9 := i_add e9 (by omega) (by omega)
        have q10 := i_add e10 (by omega) (by omega)
        have q13 := i_add e13 (by omega) (by omega)
        have kk := i_cl (i := v13) (by omega)
        have q33 := i_add (y := 1) e33 (by omega) (by omega)
        have lo : Low S S32 := by
          rw [e32]
          exact (Low.eq ((k21.2 12 (by decide)).trans (k3.2 12 (by decide)))).tr (Low.up (by omega))
        have q := ih (S := S32) (by rw [e32, mf_ne (by decide), k21.2 10 (by decide)]; exact e3) (fun k => by rw [e32, mf_ne (by decide), k21.2 24 (by decide)]; exact e324 k) (by omega) h
        refine CLR.lo lo (fun k => ?_) (fun a n1 n2 => ?_) q
        · rw [e32, show (mf S21 12 (upd (S21.2.1 12) v13.toNatClampNeg v30)).1 k = S21.1 k from rfl, k21.1 k rfl, k3.1 k rfl]
        · rw [e32, mf_ne n1, k21.2 a rfl, k3.2 a rfl]
theorem l_cl108 (hP : PL P) {r l1 l2 l3 : Int32} (hl : l3.toInt ≤ 200) : ∀ (f : Nat) {S : MS} {l4 : Int32}, S.2.1 10 = P → (∀ k, 0 ≤ (S.2.1 24 k).toInt ∧ (S.2.1 24 k).toInt ≤ 65535) → 0 ≤ l4.toInt → fr_clean_b108 f S l1 l2 l3 l4 = some (r, S1) → CLR S S1 := by
  have p4 := pl_4 hP
  intro f
  induction f with
  | zero => intro S l4 e e24 h0 h; cases h
  | succ f ih =>
    intro S l4 e e24 h0 h
    unfold fr_clean_b108 at h
    obtain ⟨v2, e2, h⟩ := elet_some h
    rw [e] at e2
    rcases oif_or h with ⟨c, h⟩ | ⟨c, h⟩
    · obtain ⟨v4, e4, h⟩ := elet_some h
      obtain ⟨v5, e5, h⟩ := elet_some h
      obtain ⟨S6, e6, h⟩ := elet_some h
      rw [← (osome2 h).2, e6]
      refine ⟨fun x a b => ?_, ?_, fun k => rfl, fun a n1 _ => mf_ne n1⟩
      · rw [mf_at]
        show (if x = 0 then v5 else S.2.1 12 x) = _
        rw [if_neg (by omega)]
      · rw [mf_at, ← e4, ← e5]
        rfl
    · have c := i_nle c
      rw [e2] at c
      exact l_cl122 h0 (by omega) hl (fun {S l} a b d q => ih a b (by omega) q) 16384 e e24 (by decide) h
theorem l_cl76 (hP : PL P) {r l1 l2 l3 : Int32} (hl : l3.toInt ≤ 200) : ∀ (f : Nat) {S : MS} {l4 : Int32}, S.2.1 10 = P → (∀ k, 0 ≤ (S.2.1 24 k).toInt ∧ (S.2.1 24 k).toInt ≤ 65535) → fr_clean_b76 f S l1 l2 l3 l4 = some (r, S1) → CLR S S1 := by
  intro f
  induction f with
  | zero => intro S l4 e e24 h; cases h
  | succ f ih =>
    intro S l4 e e24 h
    unfold fr_clean_b76 at h
    rcases oif_or h with ⟨c, h⟩ | ⟨c, h⟩
    · exact l_cl108 hP hl 16384 e e24 (by decide) h
    · obtain ⟨r6, S3, f3, h⟩ := obind2_some h
      obtain ⟨-, h⟩ := oif_some h
      obtain ⟨S8, e8, h⟩ := elet_some h
      obtain ⟨v9, -, h⟩ := elet_some h
      have k3 := w_fr_beamAt_12 f3
      have q := ih (S := S8) (by rw [e8, mf_ne (by decide), k3.2 10 (by decide)]; exact e) (fun k => by rw [e8, mf_ne (by decide), k3.2 24 (by decide)]; exact e24 k) h
      refine CLR.lo (Low.eq (by rw [e8, mf_ne (by decide), k3.2 12 (by decide)])) (fun k => ?_) (fun a n1 n2 => ?_) q
      · rw [e8, show (mf S3 29 (upd (S3.2.1 29) l4.toNatClampNeg r6)).1 k = S3.1 k from rfl, k3.1 k rfl]
      · rw [e8, mf_ne n2, k3.2 a rfl]
end
