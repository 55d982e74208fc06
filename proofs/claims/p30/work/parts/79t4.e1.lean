/-! words of the day's checks -/
theorem ib_ge {x t : Int32} (h : 0 ≤ t) : (if 0 < (if x - 2 * t < 60 then x - 2 * t else 60) then (if x - 2 * t < 60 then x - 2 * t else 60) else 0) = f_ib x t := by
  unfold f_ib
  try dsimp only
  rw [if_neg (Int32.not_lt.mpr h)]
theorem ib_lt {x t : Int32} (h : ¬ 0 ≤ t) : (if 0 < (if x - t < 60 then x - t else 60) then (if x - t < 60 then x - t else 60) else 0) = f_ib x t := by
  unfold f_ib
  try dsimp only
  rw [if_pos (Int32.not_le.mp h)]
