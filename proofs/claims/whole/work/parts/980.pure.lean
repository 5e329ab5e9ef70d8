theorem pure_ok : pureOK := by
  sorry
