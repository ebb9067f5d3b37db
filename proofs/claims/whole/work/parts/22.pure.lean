/-! STEPS THAT LEAVE THE HEAP -/
section MP
variable {p : Program} {l : Launch} {e : Env} {R : Room} {s : State} {m : MethodId} {args : Array Value} {below : List Frame} {meth : Method} {c : Code} {H : Heap} {locs : List Loc} {cells slots : Nat} {Q : State → Prop} {cc : ByteArray} {pc : Nat} {lr : Array Slot} {B : Nat} {xa : Nat → Nat}
theorem mr_un {i : Instr} {y v : Value} {rest : List Value} (hx : p.tables.exec = Jvm.exec) (hb : c.code = cc) (h : mq_un i y = some v) (hdg : decode cc pc = .ok (i, 1)) (k : W p l e R s m args below meth c H locs cells slots Q (F0 m (pc + 1) lr (mr_v B xa v :: rest))) : W p l e R s m args below meth c H locs cells slots Q (F0 m pc lr (mr_v B xa y :: rest)) := by
  unfold mq_un at h
  split at h
  · cases h; exact lv_ineg hx hb hdg k
  · cases h; exact lv_lneg hx hb hdg k
  · cases h; exact lv_i2l hx hb hdg rfl k
  · cases h; exact lv_l2i hx hb hdg rfl k
  · cases h; exact lv_i2c hx hb hdg rfl k
  · cases h; exact lv_i2b hx hb hdg rfl k
  · cases h
theorem mr_bin {i : Instr} {x y v : Value} {rest : List Value} (hx : p.tables.exec = Jvm.exec) (hb : c.code = cc) (h : mq_bin i x y = some v) (hdg : decode cc pc = .ok (i, 1)) (k : W p l e R s m args below meth c H locs cells slots Q (F0 m (pc + 1) lr (mr_v B xa v :: rest))) : W p l e R s m args below meth c H locs cells slots Q (F0 m pc lr (mr_v B xa y :: mr_v B xa x :: rest)) := by
  unfold mq_bin at h
  split at h
  · cases h; exact lv_iadd hx hb hdg k
  · cases h; exact lv_isub hx hb hdg k
  · cases h; exact lv_imul hx hb hdg k
  · split at h
    next => cases h
    next hne => cases h; exact lv_idiv hx hb hdg hne k
  · split at h
    next => cases h
    next hne => cases h; exact lv_irem hx hb hdg hne k
  · cases h; exact lv_iand hx hb hdg k
  · cases h; exact lv_ior hx hb hdg k
  · cases h; exact lv_ixor hx hb hdg k
  · cases h; exact lv_ishl hx hb hdg k
  · cases h; exact lv_ishr hx hb hdg k
  · cases h; exact lv_iushr hx hb hdg rfl k
  · cases h; exact lv_ladd hx hb hdg k
  · cases h; exact lv_lsub hx hb hdg k
  · cases h; exact lv_lmul hx hb hdg k
  · split at h
    next => cases h
    next hne => cases h; exact lv_ldiv hx hb hdg hne k
  · split at h
    next => cases h
    next hne => cases h; exact lv_lrem hx hb hdg hne k
  · cases h; exact lv_land hx hb hdg k
  · cases h; exact lv_lor hx hb hdg k
  · cases h; exact lv_lxor hx hb hdg k
  · cases h; exact lv_lshl hx hb hdg rfl k
  · cases h; exact lv_lshr hx hb hdg rfl k
  · cases h; exact W.lcmp hx hb hdg k
  · cases h
theorem mr_to {pc : Nat} {off : Int} (h : 0 ≤ (pc : Int) + off) : (pc : Int) + off = (mq_to pc off : Int) := by
  unfold mq_to
  omega
/-- a conditional jump on one int -/
theorem mr_if {cd : Jvm.ClassFile.Cond} {off : Int} {x : Int32} {rest : List Value} (hx : p.tables.exec = Jvm.exec) (hb : c.code = cc) (h0 : 0 ≤ (pc : Int) + off) (hdg : decode cc pc = .ok (.ifCond cd off, 3))
    (k : W p l e R s m args below meth c H locs cells slots Q (F0 m (if mq_cmp cd x 0 then mq_to pc off else pc + 3) lr rest)) : W p l e R s m args below meth c H locs cells slots Q (F0 m pc lr (.int x :: rest)) := by
  have ht := mr_to h0
  cases cd
  · refine lv_if_eq hx hb hdg ht (fun q => ?_) (fun q => ?_) <;> simpa [mq_cmp, q] using k
  · refine lv_if_ne hx hb hdg ht (fun q => ?_) (fun q => ?_) <;> simpa [mq_cmp, q] using k
  · refine lv_if_lt hx hb hdg ht (fun q => ?_) (fun q => ?_) <;> simpa [mq_cmp, q] using k
  · refine lv_if_ge hx hb hdg ht (fun q => ?_) (fun q => ?_) <;> simpa [mq_cmp, q] using k
  · refine lv_if_gt hx hb hdg ht (fun q => ?_) (fun q => ?_) <;> simpa [mq_cmp, q] using k
  · refine lv_if_le hx hb hdg ht (fun q => ?_) (fun q => ?_) <;> simpa [mq_cmp, q] using k
theorem mr_icmp {cd : Jvm.ClassFile.Cond} {off : Int} {x y : Int32} {rest : List Value} (hx : p.tables.exec = Jvm.exec) (hb : c.code = cc) (h0 : 0 ≤ (pc : Int) + off) (hdg : decode cc pc = .ok (.if_icmp cd off, 3))
    (k : W p l e R s m args below meth c H locs cells slots Q (F0 m (if mq_cmp cd x y then mq_to pc off else pc + 3) lr rest)) : W p l e R s m args below meth c H locs cells slots Q (F0 m pc lr (.int y :: .int x :: rest)) := by
  have ht := mr_to h0
  cases cd
  · refine lv_icmp_eq hx hb hdg ht (fun q => ?_) (fun q => ?_) <;> simpa [mq_cmp, q] using k
  · refine lv_icmp_ne hx hb hdg ht (fun q => ?_) (fun q => ?_) <;> simpa [mq_cmp, q] using k
  · refine lv_icmp_lt hx hb hdg ht (fun q => ?_) (fun q => ?_) <;> simpa [mq_cmp, q] using k
  · refine lv_icmp_ge hx hb hdg ht (fun q => ?_) (fun q => ?_) <;> simpa [mq_cmp, q] using k
  · refine lv_icmp_gt hx hb hdg ht (fun q => ?_) (fun q => ?_) <;> simpa [mq_cmp, q] using k
  · refine lv_icmp_le hx hb hdg ht (fun q => ?_) (fun q => ?_) <;> simpa [mq_cmp, q] using k
theorem mr_sw {dflt lo hi off : Int} {offs : Array Int} {n : Nat} {x : Int32} {rest : List Value} (hx : p.tables.exec = Jvm.exec) (hb : c.code = cc) (hs : mq_sw dflt lo hi offs.toList x = some off) (h0 : 0 ≤ (pc : Int) + off) (hdg : decode cc pc = .ok (.tableswitch dflt lo hi offs, n))
    (k : W p l e R s m args below meth c H locs cells slots Q (F0 m (mq_to pc off) lr rest)) : W p l e R s m args below meth c H locs cells slots Q (F0 m pc lr (.int x :: rest)) := by
  unfold mq_sw at hs
  split at hs
  next h => cases hs; exact lv_tableOut hx hb hdg h (mr_to h0) k
  next h =>
    have h1 : ¬ x.toInt < lo := fun q => h (Or.inl q)
    have h2 : ¬ hi < x.toInt := fun q => h (Or.inr q)
    exact lv_tableIn hx hb hdg h1 h2 (by simpa using hs) (mr_to h0) k
end MP
