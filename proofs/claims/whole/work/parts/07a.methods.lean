/-! THE METHODS' OWN WORDS: written by wip/gen/gen3.py; decided by the kernel. -/
theorem mk_okq_l_0 : (((List.range 307).drop 0).take 12).all mk_okq = true := by decide +kernel
theorem mk_okq_l_12 : (((List.range 307).drop 12).take 12).all mk_okq = true := by decide +kernel
theorem mk_okq_l_24 : (((List.range 307).drop 24).take 12).all mk_okq = true := by decide +kernel
theorem mk_okq_l_36 : (((List.range 307).drop 36).take 12).all mk_okq = true := by decide +kernel
theorem mk_okq_l_48 : (((List.range 307).drop 48).take 12).all mk_okq = true := by decide +kernel
theorem mk_okq_l_60 : (((List.range 307).drop 60).take 12).all mk_okq = true := by decide +kernel
theorem mk_okq_l_72 : (((List.range 307).drop 72).take 12).all mk_okq = true := by decide +kernel
theorem mk_okq_l_84 : (((List.range 307).drop 84).take 12).all mk_okq = true := by decide +kernel
theorem mk_okq_l_96 : (((List.range 307).drop 96).take 12).all mk_okq = true := by decide +kernel
