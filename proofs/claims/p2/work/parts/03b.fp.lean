theorem fp_ok (a b : Int64) (hb : ¬ b = 0) : FP.fdiv (FP.l2f a) (FP.l2f b) &&& 0x7fffffff ≤ 0x7f800000 := sorry
