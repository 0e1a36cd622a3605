theorem kf_boolf {x : Int32} (h : 0 ≤ x.toInt ∧ x.toInt ≤ 1) : fits .boolean (.int x) = true := by
  rcases kf_01 h with rfl | rfl <;> decide
