/-! java/lang/Object.<init>()V -/
theorem x306_0 (d : Nat) (o0 : Option Value) (h : mq_H) : mz d 306 0 [o0] [] h = some (some none, h) := mz_end (mz_st (show mp_ins 306 0 = some (.return_, 1) by decide +kernel) rfl)
