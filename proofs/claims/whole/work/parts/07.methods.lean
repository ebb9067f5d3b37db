/-! THE METHODS' OWN WORDS: written by wip/gen/gen3.py; decided by the kernel. -/
theorem mk_okq_l_0 : (((List.range 307).drop 0).take 25).all mk_okq = true := by decide +kernel
theorem mk_okq_l_25 : (((List.range 307).drop 25).take 25).all mk_okq = true := by decide +kernel
theorem mk_okq_l_50 : (((List.range 307).drop 50).take 25).all mk_okq = true := by decide +kernel
theorem mk_okq_l_75 : (((List.range 307).drop 75).take 25).all mk_okq = true := by decide +kernel
theorem mk_okq_l_100 : (((List.range 307).drop 100).take 25).all mk_okq = true := by decide +kernel
theorem mk_okq_l_125 : (((List.range 307).drop 125).take 25).all mk_okq = true := by decide +kernel
theorem mk_okq_l_150 : (((List.range 307).drop 150).take 25).all mk_okq = true := by decide +kernel
theorem mk_okq_l_175 : (((List.range 307).drop 175).take 25).all mk_okq = true := by decide +kernel
theorem mk_okq_l_200 : (((List.range 307).drop 200).take 25).all mk_okq = true := by decide +kernel
theorem mk_okq_l_225 : (((List.range 307).drop 225).take 25).all mk_okq = true := by decide +kernel
theorem mk_okq_l_250 : (((List.range 307).drop 250).take 25).all mk_okq = true := by decide +kernel
theorem mk_okq_l_275 : (((List.range 307).drop 275).take 25).all mk_okq = true := by decide +kernel
theorem mk_okq_l_300 : (((List.range 307).drop 300).take 25).all mk_okq = true := by decide +kernel
theorem mk_okq_l : (List.range 307).all mk_okq = true := by
  have e : (List.range 307) = ((List.range 307).drop 0).take 25 ++ (((List.range 307).drop 25).take 25 ++ (((List.range 307).drop 50).take 25 ++ (((List.range 307).drop 75).take 25 ++ (((List.range 307).drop 100).take 25 ++ (((List.range 307).drop 125).take 25 ++ (((List.range 307).drop 150).take 25 ++ (((List.range 307).drop 175).take 25 ++ (((List.range 307).drop 200).take 25 ++ (((List.range 307).drop 225).take 25 ++ (((List.range 307).drop 250).take 25 ++ (((List.range 307).drop 275).take 25 ++ (((List.range 307).drop 300).take 25)))))))))))) := by decide +kernel
  rw [e]
  simp only [List.all_append, Bool.and_eq_true]
  exact ⟨mk_okq_l_0, ⟨mk_okq_l_25, ⟨mk_okq_l_50, ⟨mk_okq_l_75, ⟨mk_okq_l_100, ⟨mk_okq_l_125, ⟨mk_okq_l_150, ⟨mk_okq_l_175, ⟨mk_okq_l_200, ⟨mk_okq_l_225, ⟨mk_okq_l_250, ⟨mk_okq_l_275, mk_okq_l_300⟩⟩⟩⟩⟩⟩⟩⟩⟩⟩⟩⟩
theorem mk_okq_all : ∀ mi, mi < 307 → mk_okq mi = true := fun mi h => List.all_eq_true.mp mk_okq_l mi (List.mem_range.mpr h)
