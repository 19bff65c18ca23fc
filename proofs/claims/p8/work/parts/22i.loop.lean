/-! the map's bytes: as many in both -/
section
theorem nI_p1 (x : Nat) : nI x + 1 = nI (x + 1) := nI_add x 1
end
