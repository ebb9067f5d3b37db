/-! THE LAW'S HANDLERS: written by wip/gen/gen5.py -/
theorem mt_hd {mi pc pc2 k : Nat} (h : mp_hd mi pc = some (pc2, k)) : ∃ a b hp ct, mk_hh mi = [(a, b, hp, ct)] ∧ covers ⟨a, b, hp, ct⟩ pc = true ∧ mp_ins mi hp = some (.astore k, 2) ∧ pc2 = hp + 2 ∧ ¬ ct = 0 ∧ Cond.classLink (mp_cn.getD (mp_of mi).1 "") ct mt_cls ∈ mg_tbl := by
  unfold mp_hd at h
  split at h
  next e =>
    obtain ⟨rfl, rfl⟩ := e
    cases h
    exact ⟨0, 10, 13, 13, by decide +kernel, by decide +kernel, by decide +kernel, rfl, by decide, (mk_nw (ci := 50) (w := 6) (by decide +kernel)).1⟩
  next =>
    split at h
    next e =>
      obtain ⟨rfl, rfl⟩ := e
      cases h
      exact ⟨0, 13, 16, 13, by decide +kernel, by decide +kernel, by decide +kernel, rfl, by decide, (mk_nw (ci := 50) (w := 6) (by decide +kernel)).1⟩
    next =>
      cases h
def mp_law : Nat := 305
theorem mk_kd0p : ∀ mj, mj < 307 → mk_kd.getD mj 9 = 0 → plainName (mk_y mj).cls = true := by decide +kernel
theorem mk_law5 : ∀ mj, mj < 307 → mk_kd.getD mj 9 = 5 → plainName (mk_y mj).cls = true ∧ (mk_y mj).cls = mp_cn.getD (mp_of mj).1 "" ∧ mp_inT.getD mj false = false ∧ mp_mx mj ≤ 80 := by decide +kernel
/-- a method with a table calls none such -/
theorem mk_in5 : ∀ mj, mj < 307 → mk_kd.getD mj 9 = 5 → (mp_cd.getD mj []).all (fun q => match q.2.1 with
  | .invokestatic _ => false
  | .invokespecial _ => false
  | _ => true) = true := by decide +kernel
