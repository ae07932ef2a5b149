theorem sc_mostCovered {K : Int} {S : CM} {M : MD} (h : s_inv K S M) : ∃ v S' M', f_X2_mostCovered S = some (v, S') ∧ f_X3_mostCovered M = some (v, M') ∧ s_inv K S' M' := by
  sorry
