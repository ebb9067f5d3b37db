/-! THE METHODS' OWN WORDS: written by wip/gen/gen3.py; decided by the kernel. -/
theorem mk_okq_l_108 : (((List.range 307).drop 108).take 12).all mk_okq = true := by decide +kernel
theorem mk_okq_l_120 : (((List.range 307).drop 120).take 12).all mk_okq = true := by decide +kernel
theorem mk_okq_l_132 : (((List.range 307).drop 132).take 12).all mk_okq = true := by decide +kernel
theorem mk_okq_l_144 : (((List.range 307).drop 144).take 12).all mk_okq = true := by decide +kernel
theorem mk_okq_l_156 : (((List.range 307).drop 156).take 12).all mk_okq = true := by decide +kernel
theorem mk_okq_l_168 : (((List.range 307).drop 168).take 12).all mk_okq = true := by decide +kernel
theorem mk_okq_l_180 : (((List.range 307).drop 180).take 12).all mk_okq = true := by decide +kernel
theorem mk_okq_l_192 : (((List.range 307).drop 192).take 12).all mk_okq = true := by decide +kernel
theorem mk_okq_l_204 : (((List.range 307).drop 204).take 12).all mk_okq = true := by decide +kernel
