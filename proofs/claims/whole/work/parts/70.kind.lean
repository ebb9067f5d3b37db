/-! KINDS, the class's side -/
theorem zb_1 : (1 : Int32) &&& 1 = 1 := by decide
theorem zb_0 : (0 : Int32) &&& 1 = 0 := by decide
theorem kd_fitsPoints (d : Nat) (h : mq_H) (v : Int32) : mz d 41 0 [some (.int v)] [] h = some (some (some (.int (if ¬ v < 4 ∧ ¬ 100 < v then 1 else 0))), h) := by
  simp only [x41_0, x41_1, x41_2, x41_5, x41_6, x41_8, x41_11, x41_12, x41_16, x41_15, zb_1, zb_0]
  by_cases h1 : v < 4 <;> by_cases h2 : 100 < v <;> simp [h1, h2]
theorem kd_isBounded (d : Nat) (h : mq_H) (k r t : Int32) : mz d 48 0 [some (.int k), some (.int r), some (.int t)] [] h = some (some (some (.int (if (r + 1) * (k + r + 2 * r * t) ≤ (k + r) * (t + 1) * (t + 1) then 1 else 0))), h) := by
  simp only [x48_0, x48_1, x48_2, x48_3, x48_4, x48_5, x48_6, x48_7, x48_8, x48_9, x48_10, x48_11, x48_12, x48_13, x48_14, x48_15, x48_16, x48_17, x48_18, x48_19, x48_20, x48_21, x48_22, x48_23, x48_24, x48_27, x48_28, x48_32, x48_31, zb_1, zb_0]
  by_cases h1 : (r + 1) * (k + r + 2 * r * t) ≤ (k + r) * (t + 1) * (t + 1)
  · simp [h1]
  · simp [h1]
