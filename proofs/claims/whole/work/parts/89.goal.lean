/-! WHAT IS LEFT: the model's run, of every script -/
theorem mz_goal (L : Nat) (xs : Nat → Int32) (hL : L ≤ 3584) : mz_run L xs := sorry
