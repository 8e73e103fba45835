theorem law_true (xs : List Int32) (h : xs.length ≤ 2048) : ∃ Mf, fL_law [.inr (.inl (false, xs))] 0 = some (1, Mf) := by
  sorry
