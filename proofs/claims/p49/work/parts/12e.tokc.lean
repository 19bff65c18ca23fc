theorem KS.tr {S S1 S2 : MS} (h : KS S S1) (k : KS S1 S2) : KS S S2 := ⟨k.1, by
  have h1 := h.2
  have k1 := k.2
  omega⟩
theorem KP.tr {S S1 S2 : MS} (h : KP S S1) (k : KP S1 S2) : KP S S2 := ⟨h.1.tr k.1, k.2.trans h.2⟩
theorem KS.rf {S : MS} (h : TK S) : KS S S := ⟨h, by omega⟩
