/-! THE METHODS' OWN WORDS: written by wip/gen/gen3.py; decided by the kernel. -/
theorem mk_okq_l_216 : (((List.range 307).drop 216).take 12).all mk_okq = true := by decide +kernel
theorem mk_okq_l_228 : (((List.range 307).drop 228).take 12).all mk_okq = true := by decide +kernel
theorem mk_okq_l_240 : (((List.range 307).drop 240).take 12).all mk_okq = true := by decide +kernel
theorem mk_okq_l_252 : (((List.range 307).drop 252).take 12).all mk_okq = true := by decide +kernel
theorem mk_okq_l_264 : (((List.range 307).drop 264).take 12).all mk_okq = true := by decide +kernel
theorem mk_okq_l_276 : (((List.range 307).drop 276).take 12).all mk_okq = true := by decide +kernel
theorem mk_okq_l_288 : (((List.range 307).drop 288).take 12).all mk_okq = true := by decide +kernel
theorem mk_okq_l_300 : (((List.range 307).drop 300).take 12).all mk_okq = true := by decide +kernel
theorem mk_okq_l : (List.range 307).all mk_okq = true := by
  have e : List.range 307 = ((List.range 307).drop 0).take 12 ++ (((List.range 307).drop 12).take 12 ++ (((List.range 307).drop 24).take 12 ++ (((List.range 307).drop 36).take 12 ++ (((List.range 307).drop 48).take 12 ++ (((List.range 307).drop 60).take 12 ++ (((List.range 307).drop 72).take 12 ++ (((List.range 307).drop 84).take 12 ++ (((List.range 307).drop 96).take 12 ++ (((List.range 307).drop 108).take 12 ++ (((List.range 307).drop 120).take 12 ++ (((List.range 307).drop 132).take 12 ++ (((List.range 307).drop 144).take 12 ++ (((List.range 307).drop 156).take 12 ++ (((List.range 307).drop 168).take 12 ++ (((List.range 307).drop 180).take 12 ++ (((List.range 307).drop 192).take 12 ++ (((List.range 307).drop 204).take 12 ++ (((List.range 307).drop 216).take 12 ++ (((List.range 307).drop 228).take 12 ++ (((List.range 307).drop 240).take 12 ++ (((List.range 307).drop 252).take 12 ++ (((List.range 307).drop 264).take 12 ++ (((List.range 307).drop 276).take 12 ++ (((List.range 307).drop 288).take 12 ++ (((List.range 307).drop 300).take 12))))))))))))))))))))))))) := by decide +kernel
  rw [e]
  simp only [List.all_append, Bool.and_eq_true]
  exact ⟨mk_okq_l_0, ⟨mk_okq_l_12, ⟨mk_okq_l_24, ⟨mk_okq_l_36, ⟨mk_okq_l_48, ⟨mk_okq_l_60, ⟨mk_okq_l_72, ⟨mk_okq_l_84, ⟨mk_okq_l_96, ⟨mk_okq_l_108, ⟨mk_okq_l_120, ⟨mk_okq_l_132, ⟨mk_okq_l_144, ⟨mk_okq_l_156, ⟨mk_okq_l_168, ⟨mk_okq_l_180, ⟨mk_okq_l_192, ⟨mk_okq_l_204, ⟨mk_okq_l_216, ⟨mk_okq_l_228, ⟨mk_okq_l_240, ⟨mk_okq_l_252, ⟨mk_okq_l_264, ⟨mk_okq_l_276, ⟨mk_okq_l_288, mk_okq_l_300⟩⟩⟩⟩⟩⟩⟩⟩⟩⟩⟩⟩⟩⟩⟩⟩⟩⟩⟩⟩⟩⟩⟩⟩⟩
theorem mk_okq_all : ∀ mi, mi < 307 → mk_okq mi = true := fun mi h => List.all_eq_true.mp mk_okq_l mi (List.mem_range.mpr h)
