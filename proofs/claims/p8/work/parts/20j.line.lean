section
variable {b : Nat → Int32} {n c i k s : Nat} {T T1 : AT} {S S1 : MS} {r : Int32}
theorem wq10 : [("mic", "map"), ("mic", "source"), ("mic", "wall"), ("mic", "fade"), ("mic", "filter"), ("mic", "clock"), ("mic", "zone"), ("mic", "shade"), ("mic", "off"), ("map", "source"), ("map", "wall"), ("map", "fade"), ("map", "filter"), ("map", "clock"), ("map", "zone"), ("map", "shade"), ("map", "off"), ("source", "wall"), ("source", "fade"), ("source", "filter"), ("source", "clock"), ("source", "zone"), ("source", "shade"), ("source", "off"), ("wall", "fade"), ("wall", "filter"), ("wall", "clock"), ("wall", "zone"), ("wall", "shade"), ("wall", "off"), ("fade", "filter"), ("fade", "clock"), ("fade", "zone"), ("fade", "shade"), ("fade", "off"), ("filter", "clock"), ("filter", "zone"), ("filter", "shade"), ("filter", "off"), ("clock", "zone"), ("clock", "shade"), ("clock", "off"), ("zone", "shade"), ("zone", "off"), ("shade", "off"), ("map", "mic"), ("source", "mic"), ("wall", "mic"), ("fade", "mic"), ("filter", "mic"), ("clock", "mic"), ("zone", "mic"), ("shade", "mic"), ("off", "mic"), ("source", "map"), ("wall", "map"), ("fade", "map"), ("filter", "map"), ("clock", "map"), ("zone", "map"), ("shade", "map"), ("off", "map"), ("wall", "source"), ("fade", "source"), ("filter", "source"), ("clock", "source"), ("zone", "source"), ("shade", "source"), ("off", "source"), ("fade", "wall"), ("filter", "wall"), ("clock", "wall"), ("zone", "wall"), ("shade", "wall"), ("off", "wall"), ("filter", "fade"), ("clock", "fade"), ("zone", "fade"), ("shade", "fade"), ("off", "fade"), ("clock", "filter"), ("zone", "filter"), ("shade", "filter"), ("off", "filter"), ("zone", "clock"), ("shade", "clock"), ("off", "clock"), ("shade", "zone"), ("off", "zone"), ("off", "shade")].all (fun p => wxq (sTx p.1) (sTx p.2)) = true := by decide +kernel
theorem wx10 {u v : String} {p : Nat} (h : (u, v) ∈ [("mic", "map"), ("mic", "source"), ("mic", "wall"), ("mic", "fade"), ("mic", "filter"), ("mic", "clock"), ("mic", "zone"), ("mic", "shade"), ("mic", "off"), ("map", "source"), ("map", "wall"), ("map", "fade"), ("map", "filter"), ("map", "clock"), ("map", "zone"), ("map", "shade"), ("map", "off"), ("source", "wall"), ("source", "fade"), ("source", "filter"), ("source", "clock"), ("source", "zone"), ("source", "shade"), ("source", "off"), ("wall", "fade"), ("wall", "filter"), ("wall", "clock"), ("wall", "zone"), ("wall", "shade"), ("wall", "off"), ("fade", "filter"), ("fade", "clock"), ("fade", "zone"), ("fade", "shade"), ("fade", "off"), ("filter", "clock"), ("filter", "zone"), ("filter", "shade"), ("filter", "off"), ("clock", "zone"), ("clock", "shade"), ("clock", "off"), ("zone", "shade"), ("zone", "off"), ("shade", "off"), ("map", "mic"), ("source", "mic"), ("wall", "mic"), ("fade", "mic"), ("filter", "mic"), ("clock", "mic"), ("zone", "mic"), ("shade", "mic"), ("off", "mic"), ("source", "map"), ("wall", "map"), ("fade", "map"), ("filter", "map"), ("clock", "map"), ("zone", "map"), ("shade", "map"), ("off", "map"), ("wall", "source"), ("fade", "source"), ("filter", "source"), ("clock", "source"), ("zone", "source"), ("shade", "source"), ("off", "source"), ("fade", "wall"), ("filter", "wall"), ("clock", "wall"), ("zone", "wall"), ("shade", "wall"), ("off", "wall"), ("filter", "fade"), ("clock", "fade"), ("zone", "fade"), ("shade", "fade"), ("off", "fade"), ("clock", "filter"), ("zone", "filter"), ("shade", "filter"), ("off", "filter"), ("zone", "clock"), ("shade", "clock"), ("off", "clock"), ("shade", "zone"), ("off", "zone"), ("off", "shade")]) (a : WD b n p (sTx u)) : ¬ WD b n p (sTx v) := wx (List.all_eq_true.mp wq10 _ h) a
theorem thr_end {T1 : AT} {x : Option (Nat × Int32 × AT)} (h : othr x 0 (fun _ U => g_X3_parseLine_b209 U) = some (k, r, T1)) : ∃ r9, x = some (k, r9, T1) := by
  rcases othr_k h with ⟨r9, g, -⟩ | ⟨r9, U, g, h⟩
  · exact ⟨r9, g⟩
  · have q := osome3 (show some ((0 : Nat), (0 : Int32), U) = some (k, r, T1) from h)
    rw [← q.1, ← q.2.2]
    exact ⟨r9, g⟩
set_option maxHeartbeats 400000 in
theorem c_line (h : PRq b n c i T S) (hF : SRF s T) (hg : g_X3_parseLine T 6 s = some (k, r, T1)) : (WD b n (pst b n i) (sTx "mic") ∧ ∃ r9, g_X3_parseMic T 6 s = some (k, r9, T1)) ∨ (WD b n (pst b n i) (sTx "map") ∧ ∃ r9, g_X3_parseMap T 6 (s + 2) = some (k, r9, T1)) ∨ (WD b n (pst b n i) (sTx "source") ∧ ∃ r9, g_X3_parseSource T 6 s = some (k, r9, T1)) ∨ (WD b n (pst b n i) (sTx "wall") ∧ ∃ r9, g_X3_parseWall T 6 s = some (k, r9, T1)) ∨ (WD b n (pst b n i) (sTx "fade") ∧ ∃ r9, (elet (T.2.2.1 s 12) fun v107 => if v107 ≤ 0 then (g_X3_parseLine_b93 T 0 6 6 s) else (g_X3_parseLine_b93 T 1 6 6 s)) = some (k, r9, T1)) ∨ (WD b n (pst b n i) (sTx "filter") ∧ ∃ r9, g_X3_parseFilter T 6 s = some (k, r9, T1)) ∨ (WD b n (pst b n i) (sTx "clock") ∧ ∃ r9, g_X3_parseClock T 6 s = some (k, r9, T1)) ∨ (WD b n (pst b n i) (sTx "zone") ∧ ∃ r9, g_X3_parseZone T 6 (s + 2) = some (k, r9, T1)) ∨ (WD b n (pst b n i) (sTx "shade") ∧ ∃ r9, g_X3_parseShade T 6 s = some (k, r9, T1)) ∨ (WD b n (pst b n i) (sTx "off") ∧ ∃ r9, g_X3_parseOff T 6 s = some (k, r9, T1)) ∨ ((¬ WD b n (pst b n i) (sTx "mic") ∧ ¬ WD b n (pst b n i) (sTx "map") ∧ ¬ WD b n (pst b n i) (sTx "source") ∧ ¬ WD b n (pst b n i) (sTx "wall") ∧ ¬ WD b n (pst b n i) (sTx "fade") ∧ ¬ WD b n (pst b n i) (sTx "filter") ∧ ¬ WD b n (pst b n i) (sTx "clock") ∧ ¬ WD b n (pst b n i) (sTx "zone") ∧ ¬ WD b n (pst b n i) (sTx "shade") ∧ ¬ WD b n (pst b n i) (sTx "off")) ∧ ∃ r9, g_X3_failAt T 6 (nI i) 1 = some (k, r9, T1)) := by
  unfold g_X3_parseLine at hg
  obtain ⟨-, hg⟩ := oif_some hg
  obtain ⟨r0, U0, e0, hg⟩ := obind2_some hg
  obtain ⟨t0, d0⟩ := kc_word (wl_of (by decide)) h e0
  rw [t0] at hg
  rcases d0 with ⟨z, d0⟩ | ⟨z, d0⟩
  · rw [if_neg (by rw [z]; decide)] at hg
    obtain ⟨-, hg⟩ := oif_some hg
    obtain ⟨r9, hg⟩ := thr_end hg
    exact .inl ⟨d0, r9, hg⟩
  rw [if_pos z] at hg
  obtain ⟨-, hg⟩ := oif_some hg
  obtain ⟨r1, U1, e1, hg⟩ := obind2_some hg
  obtain ⟨t1, d1⟩ := kc_word (wl_of (by decide)) h e1
  rw [t1] at hg
  rcases d1 with ⟨z, d1⟩ | ⟨z, d1⟩
  · rw [if_neg (by rw [z]; decide)] at hg
    obtain ⟨-, hg⟩ := oif_some hg
    obtain ⟨n9, e9, hg⟩ := obind_some hg
    rw [hF.2.1] at e9
    cases e9
    obtain ⟨-, hg⟩ := oif_some hg
    obtain ⟨r9, hg⟩ := thr_end hg
    exact .inr (.inl ⟨d1, r9, hg⟩)
  rw [if_pos z] at hg
  obtain ⟨-, hg⟩ := oif_some hg
  obtain ⟨r2, U2, e2, hg⟩ := obind2_some hg
  obtain ⟨t2, d2⟩ := kc_word (wl_of (by decide)) h e2
  rw [t2] at hg
  rcases d2 with ⟨z, d2⟩ | ⟨z, d2⟩
  · rw [if_neg (by rw [z]; decide)] at hg
    obtain ⟨-, hg⟩ := oif_some hg
    obtain ⟨r9, hg⟩ := thr_end hg
    exact .inr (.inr (.inl ⟨d2, r9, hg⟩))
  rw [if_pos z] at hg
  obtain ⟨-, hg⟩ := oif_some hg
  obtain ⟨r3, U3, e3, hg⟩ := obind2_some hg
  obtain ⟨t3, d3⟩ := kc_word (wl_of (by decide)) h e3
  rw [t3] at hg
  rcases d3 with ⟨z, d3⟩ | ⟨z, d3⟩
  · rw [if_neg (by rw [z]; decide)] at hg
    obtain ⟨-, hg⟩ := oif_some hg
    obtain ⟨r9, hg⟩ := thr_end hg
    exact .inr (.inr (.inr (.inl ⟨d3, r9, hg⟩)))
  rw [if_pos z] at hg
  obtain ⟨-, hg⟩ := oif_some hg
  obtain ⟨r4, U4, e4, hg⟩ := obind2_some hg
  obtain ⟨t4, d4⟩ := kc_word (wl_of (by decide)) h e4
  rw [t4] at hg
  rcases d4 with ⟨z, d4⟩ | ⟨z, d4⟩
  · rw [if_neg (by rw [z]; decide)] at hg
    obtain ⟨-, hg⟩ := oif_some hg
    exact .inr (.inr (.inr (.inr (.inl ⟨d4, r, hg⟩))))
  rw [if_pos z] at hg
  obtain ⟨-, hg⟩ := oif_some hg
  obtain ⟨r5, U5, e5, hg⟩ := obind2_some hg
  obtain ⟨t5, d5⟩ := kc_word (wl_of (by decide)) h e5
  rw [t5] at hg
  rcases d5 with ⟨z, d5⟩ | ⟨z, d5⟩
  · rw [if_neg (by rw [z]; decide)] at hg
    obtain ⟨-, hg⟩ := oif_some hg
    obtain ⟨r9, hg⟩ := thr_end hg
    exact .inr (.inr (.inr (.inr (.inr (.inl ⟨d5, r9, hg⟩)))))
  rw [if_pos z] at hg
  obtain ⟨-, hg⟩ := oif_some hg
  obtain ⟨r6, U6, e6, hg⟩ := obind2_some hg
  obtain ⟨t6, d6⟩ := kc_word (wl_of (by decide)) h e6
  rw [t6] at hg
  rcases d6 with ⟨z, d6⟩ | ⟨z, d6⟩
  · rw [if_neg (by rw [z]; decide)] at hg
    obtain ⟨-, hg⟩ := oif_some hg
    obtain ⟨r9, hg⟩ := thr_end hg
    exact .inr (.inr (.inr (.inr (.inr (.inr (.inl ⟨d6, r9, hg⟩))))))
  rw [if_pos z] at hg
  obtain ⟨-, hg⟩ := oif_some hg
  obtain ⟨r7, U7, e7, hg⟩ := obind2_some hg
  obtain ⟨t7, d7⟩ := kc_word (wl_of (by decide)) h e7
  rw [t7] at hg
  rcases d7 with ⟨z, d7⟩ | ⟨z, d7⟩
  · rw [if_neg (by rw [z]; decide)] at hg
    obtain ⟨-, hg⟩ := oif_some hg
    obtain ⟨n9, e9, hg⟩ := obind_some hg
    rw [hF.2.1] at e9
    cases e9
    obtain ⟨-, hg⟩ := oif_some hg
    obtain ⟨r9, hg⟩ := thr_end hg
    exact .inr (.inr (.inr (.inr (.inr (.inr (.inr (.inl ⟨d7, r9, hg⟩)))))))
  rw [if_pos z] at hg
  obtain ⟨-, hg⟩ := oif_some hg
  obtain ⟨r8, U8, e8, hg⟩ := obind2_some hg
  obtain ⟨t8, d8⟩ := kc_word (wl_of (by decide)) h e8
  rw [t8] at hg
  rcases d8 with ⟨z, d8⟩ | ⟨z, d8⟩
  · rw [if_neg (by rw [z]; decide)] at hg
    obtain ⟨-, hg⟩ := oif_some hg
    obtain ⟨r9, hg⟩ := thr_end hg
    exact .inr (.inr (.inr (.inr (.inr (.inr (.inr (.inr (.inl ⟨d8, r9, hg⟩))))))))
  rw [if_pos z] at hg
  obtain ⟨-, hg⟩ := oif_some hg
  obtain ⟨r9, U9, e9, hg⟩ := obind2_some hg
  obtain ⟨t9, d9⟩ := kc_word (wl_of (by decide)) h e9
  rw [t9] at hg
  rcases d9 with ⟨z, d9⟩ | ⟨z, d9⟩
  · rw [if_neg (by rw [z]; decide)] at hg
    obtain ⟨-, hg⟩ := oif_some hg
    obtain ⟨r9, hg⟩ := thr_end hg
    exact .inr (.inr (.inr (.inr (.inr (.inr (.inr (.inr (.inr (.inl ⟨d9, r9, hg⟩)))))))))
  rw [if_pos z] at hg
  obtain ⟨-, hg⟩ := oif_some hg
  obtain ⟨v73, e73, hg⟩ := elet_some hg
  rw [h.1.2.2.2.2.2] at e73
  rw [e73] at hg
  obtain ⟨-, hg⟩ := oif_some hg
  obtain ⟨r9, hg⟩ := thr_end hg
  exact .inr (.inr (.inr (.inr (.inr (.inr (.inr (.inr (.inr (.inr (⟨⟨d0, d1, d2, d3, d4, d5, d6, d7, d8, d9⟩, r9, hg⟩))))))))))
set_option maxHeartbeats 400000 in
theorem r_line (h : PRq b n c i T S) (hf : fr_readLine S = some S1) : (WD b n (pst b n i) (sTx "wall") ∧ fr_readWall S = some S1) ∨ (WD b n (pst b n i) (sTx "fade") ∧ fr_readFade S = some S1) ∨ (WD b n (pst b n i) (sTx "filter") ∧ fr_readFilter S = some S1) ∨ (WD b n (pst b n i) (sTx "clock") ∧ fr_readClock S = some S1) ∨ (WD b n (pst b n i) (sTx "zone") ∧ fr_readZone S = some S1) ∨ (WD b n (pst b n i) (sTx "shade") ∧ fr_readShade S = some S1) ∨ (WD b n (pst b n i) (sTx "off") ∧ fr_readOff S = some S1) ∨ (WD b n (pst b n i) (sTx "mic") ∧ fr_readMic S = some S1) ∨ (WD b n (pst b n i) (sTx "map") ∧ fr_readMap S = some S1) ∨ (WD b n (pst b n i) (sTx "source") ∧ fr_readSource S = some S1) ∨ ((¬ WD b n (pst b n i) (sTx "wall") ∧ ¬ WD b n (pst b n i) (sTx "fade") ∧ ¬ WD b n (pst b n i) (sTx "filter") ∧ ¬ WD b n (pst b n i) (sTx "clock") ∧ ¬ WD b n (pst b n i) (sTx "zone") ∧ ¬ WD b n (pst b n i) (sTx "shade") ∧ ¬ WD b n (pst b n i) (sTx "off") ∧ ¬ WD b n (pst b n i) (sTx "mic") ∧ ¬ WD b n (pst b n i) (sTx "map") ∧ ¬ WD b n (pst b n i) (sTx "source")) ∧ fr_faults S 1 = some S1) := by
  unfold fr_readLine at hf
  obtain ⟨r0, U0, e0, hf⟩ := obind2_some hf
  obtain ⟨t0, d0⟩ := kr_word (wl_of (by decide)) h e0
  rw [t0] at hf
  rcases d0 with ⟨z, d0⟩ | ⟨z, d0⟩
  · rw [if_neg (by rw [z]; decide)] at hf
    obtain ⟨V, f9, hf⟩ := obind_some hf
    have q := osome1 (show some V = some S1 from hf)
    rw [q] at f9
    exact .inl ⟨d0, f9⟩
  rw [if_pos z] at hf
  obtain ⟨r1, U1, e1, hf⟩ := obind2_some hf
  obtain ⟨t1, d1⟩ := kr_word (wl_of (by decide)) h e1
  rw [t1] at hf
  rcases d1 with ⟨z, d1⟩ | ⟨z, d1⟩
  · rw [if_neg (by rw [z]; decide)] at hf
    obtain ⟨V, f9, hf⟩ := obind_some hf
    have q := osome1 (show some V = some S1 from hf)
    rw [q] at f9
    exact .inr (.inl ⟨d1, f9⟩)
  rw [if_pos z] at hf
  obtain ⟨r2, U2, e2, hf⟩ := obind2_some hf
  obtain ⟨t2, d2⟩ := kr_word (wl_of (by decide)) h e2
  rw [t2] at hf
  rcases d2 with ⟨z, d2⟩ | ⟨z, d2⟩
  · rw [if_neg (by rw [z]; decide)] at hf
    obtain ⟨V, f9, hf⟩ := obind_some hf
    have q := osome1 (show some V = some S1 from hf)
    rw [q] at f9
    exact .inr (.inr (.inl ⟨d2, f9⟩))
  rw [if_pos z] at hf
  obtain ⟨r3, U3, e3, hf⟩ := obind2_some hf
  obtain ⟨t3, d3⟩ := kr_word (wl_of (by decide)) h e3
  rw [t3] at hf
  rcases d3 with ⟨z, d3⟩ | ⟨z, d3⟩
  · rw [if_neg (by rw [z]; decide)] at hf
    obtain ⟨V, f9, hf⟩ := obind_some hf
    have q := osome1 (show some V = some S1 from hf)
    rw [q] at f9
    exact .inr (.inr (.inr (.inl ⟨d3, f9⟩)))
  rw [if_pos z] at hf
  obtain ⟨r4, U4, e4, hf⟩ := obind2_some hf
  obtain ⟨t4, d4⟩ := kr_word (wl_of (by decide)) h e4
  rw [t4] at hf
  rcases d4 with ⟨z, d4⟩ | ⟨z, d4⟩
  · rw [if_neg (by rw [z]; decide)] at hf
    obtain ⟨V, f9, hf⟩ := obind_some hf
    have q := osome1 (show some V = some S1 from hf)
    rw [q] at f9
    exact .inr (.inr (.inr (.inr (.inl ⟨d4, f9⟩))))
  rw [if_pos z] at hf
  obtain ⟨r5, U5, e5, hf⟩ := obind2_some hf
  obtain ⟨t5, d5⟩ := kr_word (wl_of (by decide)) h e5
  rw [t5] at hf
  rcases d5 with ⟨z, d5⟩ | ⟨z, d5⟩
  · rw [if_neg (by rw [z]; decide)] at hf
    obtain ⟨V, f9, hf⟩ := obind_some hf
    have q := osome1 (show some V = some S1 from hf)
    rw [q] at f9
    exact .inr (.inr (.inr (.inr (.inr (.inl ⟨d5, f9⟩)))))
  rw [if_pos z] at hf
  obtain ⟨r6, U6, e6, hf⟩ := obind2_some hf
  obtain ⟨t6, d6⟩ := kr_word (wl_of (by decide)) h e6
  rw [t6] at hf
  rcases d6 with ⟨z, d6⟩ | ⟨z, d6⟩
  · rw [if_neg (by rw [z]; decide)] at hf
    obtain ⟨V, f9, hf⟩ := obind_some hf
    have q := osome1 (show some V = some S1 from hf)
    rw [q] at f9
    exact .inr (.inr (.inr (.inr (.inr (.inr (.inl ⟨d6, f9⟩))))))
  rw [if_pos z] at hf
  obtain ⟨r7, U7, e7, hf⟩ := obind2_some hf
  obtain ⟨t7, d7⟩ := kr_word (wl_of (by decide)) h e7
  rw [t7] at hf
  rcases d7 with ⟨z, d7⟩ | ⟨z, d7⟩
  · rw [if_neg (by rw [z]; decide)] at hf
    obtain ⟨V, f9, hf⟩ := obind_some hf
    have q := osome1 (show some V = some S1 from hf)
    rw [q] at f9
    exact .inr (.inr (.inr (.inr (.inr (.inr (.inr (.inl ⟨d7, f9⟩)))))))
  rw [if_pos z] at hf
  obtain ⟨r8, U8, e8, hf⟩ := obind2_some hf
  obtain ⟨t8, d8⟩ := kr_word (wl_of (by decide)) h e8
  rw [t8] at hf
  rcases d8 with ⟨z, d8⟩ | ⟨z, d8⟩
  · rw [if_neg (by rw [z]; decide)] at hf
    obtain ⟨V, f9, hf⟩ := obind_some hf
    have q := osome1 (show some V = some S1 from hf)
    rw [q] at f9
    exact .inr (.inr (.inr (.inr (.inr (.inr (.inr (.inr (.inl ⟨d8, f9⟩))))))))
  rw [if_pos z] at hf
  obtain ⟨r9, U9, e9, hf⟩ := obind2_some hf
  obtain ⟨t9, d9⟩ := kr_word (wl_of (by decide)) h e9
  rw [t9] at hf
  rcases d9 with ⟨z, d9⟩ | ⟨z, d9⟩
  · rw [if_neg (by rw [z]; decide)] at hf
    obtain ⟨V, f9, hf⟩ := obind_some hf
    have q := osome1 (show some V = some S1 from hf)
    rw [q] at f9
    exact .inr (.inr (.inr (.inr (.inr (.inr (.inr (.inr (.inr (.inl ⟨d9, f9⟩)))))))))
  rw [if_pos z] at hf
  obtain ⟨V, f9, hf⟩ := obind_some hf
  have q := osome1 (show some V = some S1 from hf)
  rw [q] at f9
  exact .inr (.inr (.inr (.inr (.inr (.inr (.inr (.inr (.inr (.inr (⟨⟨d0, d1, d2, d3, d4, d5, d6, d7, d8, d9⟩, f9⟩))))))))))
set_option maxHeartbeats 400000 in
theorem l_line (h : PRq b n c i T S) (hs : s = 478 ∨ s = 656) (hF : SRF s T) (hC : SCNq s T (S.2.1 11) (S.2.1 13)) (hg : g_X3_parseLine T 6 s = some (k, r, T1)) (hf : fr_readLine S = some S1) : LNq b n c i s T T1 S1 k := by
  have hsb : 478 ≤ s ∧ s ≤ 656 := by omega
  have cl := c_line h hF hg
  have rl := r_line h hf
  have e_mic : WD b n (pst b n i) (sTx "mic") → fr_readMic S = some S1 := fun d => by
    rcases rl with ⟨f, q⟩ | ⟨f, q⟩ | ⟨f, q⟩ | ⟨f, q⟩ | ⟨f, q⟩ | ⟨f, q⟩ | ⟨f, q⟩ | ⟨f, q⟩ | ⟨f, q⟩ | ⟨f, q⟩ | ⟨f, -⟩
    · exact absurd f (wx10 (by decide) d)
    · exact absurd f (wx10 (by decide) d)
    · exact absurd f (wx10 (by decide) d)
    · exact absurd f (wx10 (by decide) d)
    · exact absurd f (wx10 (by decide) d)
    · exact absurd f (wx10 (by decide) d)
    · exact absurd f (wx10 (by decide) d)
    · exact q
    · exact absurd f (wx10 (by decide) d)
    · exact absurd f (wx10 (by decide) d)
    · exact absurd d f.2.2.2.2.2.2.2.1
  have e_map : WD b n (pst b n i) (sTx "map") → fr_readMap S = some S1 := fun d => by
    rcases rl with ⟨f, q⟩ | ⟨f, q⟩ | ⟨f, q⟩ | ⟨f, q⟩ | ⟨f, q⟩ | ⟨f, q⟩ | ⟨f, q⟩ | ⟨f, q⟩ | ⟨f, q⟩ | ⟨f, q⟩ | ⟨f, -⟩
    · exact absurd f (wx10 (by decide) d)
    · exact absurd f (wx10 (by decide) d)
    · exact absurd f (wx10 (by decide) d)
    · exact absurd f (wx10 (by decide) d)
    · exact absurd f (wx10 (by decide) d)
    · exact absurd f (wx10 (by decide) d)
    · exact absurd f (wx10 (by decide) d)
    · exact absurd f (wx10 (by decide) d)
    · exact q
    · exact absurd f (wx10 (by decide) d)
    · exact absurd d f.2.2.2.2.2.2.2.2.1
  have e_source : WD b n (pst b n i) (sTx "source") → fr_readSource S = some S1 := fun d => by
    rcases rl with ⟨f, q⟩ | ⟨f, q⟩ | ⟨f, q⟩ | ⟨f, q⟩ | ⟨f, q⟩ | ⟨f, q⟩ | ⟨f, q⟩ | ⟨f, q⟩ | ⟨f, q⟩ | ⟨f, q⟩ | ⟨f, -⟩
    · exact absurd f (wx10 (by decide) d)
    · exact absurd f (wx10 (by decide) d)
    · exact absurd f (wx10 (by decide) d)
    · exact absurd f (wx10 (by decide) d)
    · exact absurd f (wx10 (by decide) d)
    · exact absurd f (wx10 (by decide) d)
    · exact absurd f (wx10 (by decide) d)
    · exact absurd f (wx10 (by decide) d)
    · exact absurd f (wx10 (by decide) d)
    · exact q
    · exact absurd d f.2.2.2.2.2.2.2.2.2
  have e_wall : WD b n (pst b n i) (sTx "wall") → fr_readWall S = some S1 := fun d => by
    rcases rl with ⟨f, q⟩ | ⟨f, q⟩ | ⟨f, q⟩ | ⟨f, q⟩ | ⟨f, q⟩ | ⟨f, q⟩ | ⟨f, q⟩ | ⟨f, q⟩ | ⟨f, q⟩ | ⟨f, q⟩ | ⟨f, -⟩
    · exact q
    · exact absurd f (wx10 (by decide) d)
    · exact absurd f (wx10 (by decide) d)
    · exact absurd f (wx10 (by decide) d)
    · exact absurd f (wx10 (by decide) d)
    · exact absurd f (wx10 (by decide) d)
    · exact absurd f (wx10 (by decide) d)
    · exact absurd f (wx10 (by decide) d)
    · exact absurd f (wx10 (by decide) d)
    · exact absurd f (wx10 (by decide) d)
    · exact absurd d f.1
  have e_fade : WD b n (pst b n i) (sTx "fade") → fr_readFade S = some S1 := fun d => by
    rcases rl with ⟨f, q⟩ | ⟨f, q⟩ | ⟨f, q⟩ | ⟨f, q⟩ | ⟨f, q⟩ | ⟨f, q⟩ | ⟨f, q⟩ | ⟨f, q⟩ | ⟨f, q⟩ | ⟨f, q⟩ | ⟨f, -⟩
    · exact absurd f (wx10 (by decide) d)
    · exact q
    · exact absurd f (wx10 (by decide) d)
    · exact absurd f (wx10 (by decide) d)
    · exact absurd f (wx10 (by decide) d)
    · exact absurd f (wx10 (by decide) d)
    · exact absurd f (wx10 (by decide) d)
    · exact absurd f (wx10 (by decide) d)
    · exact absurd f (wx10 (by decide) d)
    · exact absurd f (wx10 (by decide) d)
    · exact absurd d f.2.1
  have e_filter : WD b n (pst b n i) (sTx "filter") → fr_readFilter S = some S1 := fun d => by
    rcases rl with ⟨f, q⟩ | ⟨f, q⟩ | ⟨f, q⟩ | ⟨f, q⟩ | ⟨f, q⟩ | ⟨f, q⟩ | ⟨f, q⟩ | ⟨f, q⟩ | ⟨f, q⟩ | ⟨f, q⟩ | ⟨f, -⟩
    · exact absurd f (wx10 (by decide) d)
    · exact absurd f (wx10 (by decide) d)
    · exact q
    · exact absurd f (wx10 (by decide) d)
    · exact absurd f (wx10 (by decide) d)
    · exact absurd f (wx10 (by decide) d)
    · exact absurd f (wx10 (by decide) d)
    · exact absurd f (wx10 (by decide) d)
    · exact absurd f (wx10 (by decide) d)
    · exact absurd f (wx10 (by decide) d)
    · exact absurd d f.2.2.1
  have e_clock : WD b n (pst b n i) (sTx "clock") → fr_readClock S = some S1 := fun d => by
    rcases rl with ⟨f, q⟩ | ⟨f, q⟩ | ⟨f, q⟩ | ⟨f, q⟩ | ⟨f, q⟩ | ⟨f, q⟩ | ⟨f, q⟩ | ⟨f, q⟩ | ⟨f, q⟩ | ⟨f, q⟩ | ⟨f, -⟩
    · exact absurd f (wx10 (by decide) d)
    · exact absurd f (wx10 (by decide) d)
    · exact absurd f (wx10 (by decide) d)
    · exact q
    · exact absurd f (wx10 (by decide) d)
    · exact absurd f (wx10 (by decide) d)
    · exact absurd f (wx10 (by decide) d)
    · exact absurd f (wx10 (by decide) d)
    · exact absurd f (wx10 (by decide) d)
    · exact absurd f (wx10 (by decide) d)
    · exact absurd d f.2.2.2.1
  have e_zone : WD b n (pst b n i) (sTx "zone") → fr_readZone S = some S1 := fun d => by
    rcases rl with ⟨f, q⟩ | ⟨f, q⟩ | ⟨f, q⟩ | ⟨f, q⟩ | ⟨f, q⟩ | ⟨f, q⟩ | ⟨f, q⟩ | ⟨f, q⟩ | ⟨f, q⟩ | ⟨f, q⟩ | ⟨f, -⟩
    · exact absurd f (wx10 (by decide) d)
    · exact absurd f (wx10 (by decide) d)
    · exact absurd f (wx10 (by decide) d)
    · exact absurd f (wx10 (by decide) d)
    · exact q
    · exact absurd f (wx10 (by decide) d)
    · exact absurd f (wx10 (by decide) d)
    · exact absurd f (wx10 (by decide) d)
    · exact absurd f (wx10 (by decide) d)
    · exact absurd f (wx10 (by decide) d)
    · exact absurd d f.2.2.2.2.1
  have e_shade : WD b n (pst b n i) (sTx "shade") → fr_readShade S = some S1 := fun d => by
    rcases rl with ⟨f, q⟩ | ⟨f, q⟩ | ⟨f, q⟩ | ⟨f, q⟩ | ⟨f, q⟩ | ⟨f, q⟩ | ⟨f, q⟩ | ⟨f, q⟩ | ⟨f, q⟩ | ⟨f, q⟩ | ⟨f, -⟩
    · exact absurd f (wx10 (by decide) d)
    · exact absurd f (wx10 (by decide) d)
    · exact absurd f (wx10 (by decide) d)
    · exact absurd f (wx10 (by decide) d)
    · exact absurd f (wx10 (by decide) d)
    · exact q
    · exact absurd f (wx10 (by decide) d)
    · exact absurd f (wx10 (by decide) d)
    · exact absurd f (wx10 (by decide) d)
    · exact absurd f (wx10 (by decide) d)
    · exact absurd d f.2.2.2.2.2.1
  have e_off : WD b n (pst b n i) (sTx "off") → fr_readOff S = some S1 := fun d => by
    rcases rl with ⟨f, q⟩ | ⟨f, q⟩ | ⟨f, q⟩ | ⟨f, q⟩ | ⟨f, q⟩ | ⟨f, q⟩ | ⟨f, q⟩ | ⟨f, q⟩ | ⟨f, q⟩ | ⟨f, q⟩ | ⟨f, -⟩
    · exact absurd f (wx10 (by decide) d)
    · exact absurd f (wx10 (by decide) d)
    · exact absurd f (wx10 (by decide) d)
    · exact absurd f (wx10 (by decide) d)
    · exact absurd f (wx10 (by decide) d)
    · exact absurd f (wx10 (by decide) d)
    · exact q
    · exact absurd f (wx10 (by decide) d)
    · exact absurd f (wx10 (by decide) d)
    · exact absurd f (wx10 (by decide) d)
    · exact absurd d f.2.2.2.2.2.2.1
  rcases cl with ⟨d, r9, hg⟩ | ⟨d, r9, hg⟩ | ⟨d, r9, hg⟩ | ⟨d, r9, hg⟩ | ⟨d, r9, hg⟩ | ⟨d, r9, hg⟩ | ⟨d, r9, hg⟩ | ⟨d, r9, hg⟩ | ⟨d, r9, hg⟩ | ⟨d, r9, hg⟩ | ⟨d, r9, hg⟩
  · exact l_mic h d.1 hs hF hC hg (e_mic d)
  · exact l_map h d.1 hs hF hC hg (e_map d)
  · exact l_source h d.1 hs hF hC hg (e_source d)
  · exact l_wall h d.1 hs hF hC hg (e_wall d)
  · exact l_fade h d.1 hs hF hC hg (e_fade d)
  · exact l_filter h d.1 hs hF hC hg (e_filter d)
  · exact l_clock h d.1 hs hF hC hg (e_clock d)
  · exact l_zone h d.1 hs hF hC hg (e_zone d)
  · exact l_shade h d.1 hs hF hC hg (e_shade d)
  · exact l_off h d.1 hs hF hC hg (e_off d)
  · rcases rl with ⟨f, -⟩ | ⟨f, -⟩ | ⟨f, -⟩ | ⟨f, -⟩ | ⟨f, -⟩ | ⟨f, -⟩ | ⟨f, -⟩ | ⟨f, -⟩ | ⟨f, -⟩ | ⟨f, -⟩ | ⟨-, f⟩
    · exact absurd f d.2.2.2.1
    · exact absurd f d.2.2.2.2.1
    · exact absurd f d.2.2.2.2.2.1
    · exact absurd f d.2.2.2.2.2.2.1
    · exact absurd f d.2.2.2.2.2.2.2.1
    · exact absurd f d.2.2.2.2.2.2.2.2.1
    · exact absurd f d.2.2.2.2.2.2.2.2.2
    · exact absurd f d.1
    · exact absurd f d.2.1
    · exact absurd f d.2.2.1
    · exact .inr (k_err h h.1.2.2.2.2.1 rfl (by decide) hg f)
end
