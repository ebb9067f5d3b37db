/-! CALLS, AND ALL RUNS -/
theorem mv_gon {pc pc' : Nat} {ls ls' : mq_L} {st st' : List Value} {h h' h2 : mq_H} (hm : h.1 ≤ h2.1 ∧ h.2.1 ≤ h2.2.1) (h0 : mq_go pc ls st h2 = some (.inl (pc', ls', st', h'))) : h.1 ≤ h'.1 ∧ h.2.1 ≤ h'.2.1 := by
  unfold mq_go at h0
  cases h0
  exact hm
theorem mv_jn {b : Bool} {pc n pc' : Nat} {off : Int} {ls ls' : mq_L} {st st' : List Value} {h h' : mq_H} (h0 : mq_jump b pc n off ls st h = some (.inl (pc', ls', st', h'))) : h.1 ≤ h'.1 ∧ h.2.1 ≤ h'.2.1 := by
  unfold mq_jump at h0
  split at h0
  · exact mv_gon ⟨Nat.le_refl _, Nat.le_refl _⟩ h0
  · cases h0
theorem mv_wr (h : mq_H) (a : Nat) (x : mq_E) : h.1 ≤ (mq_wr h a x).1 ∧ h.2.1 ≤ (mq_wr h a x).2.1 := ⟨Nat.le_refl _, Nat.le_refl _⟩
theorem mv_mk (h : mq_H) (w : Nat) (x : mq_E) : h.1 ≤ (mq_mk h w x).1 ∧ h.2.1 ≤ (mq_mk h w x).2.1 := ⟨Nat.le_succ _, Nat.le_add_right _ _⟩
theorem mv_rf (h : mq_H) : h.1 ≤ h.1 ∧ h.2.1 ≤ h.2.1 := ⟨Nat.le_refl _, Nat.le_refl _⟩
theorem mv_aw {st t : List Value} {h h1 : mq_H} {kd : Nat} {z : Int32 → Int32} (hr : mq_awi st h kd z = some (h1, t)) : h.1 ≤ h1.1 ∧ h.2.1 ≤ h1.2.1 := ⟨Nat.le_of_eq (mr_awi_n hr).1.symm, Nat.le_of_eq (mr_awi_n hr).2.symm⟩
set_option maxHeartbeats 4000000 in
theorem mv_mono {mi pc n pc' : Nat} {i : Instr} {ls ls' : mq_L} {st st' : List Value} {h h' : mq_H} (h0 : mq_do mi pc i n ls st h = some (.inl (pc', ls', st', h'))) : h.1 ≤ h'.1 ∧ h.2.1 ≤ h'.2.1 := by
  unfold mq_do at h0
  split at h0
  case h_39 =>
    split at h0
    next h1 t hr => exact mv_gon (mv_aw hr) h0
    next => cases h0
  case h_40 =>
    split at h0
    next h1 t hr => exact mv_gon (mv_aw hr) h0
    next => cases h0
  case h_41 =>
    split at h0
    next h1 t hr => exact mv_gon (mv_aw hr) h0
    next => cases h0
  case h_48 => exact absurd h0 (mq_call_no _ _ _ _ _ _)
  case h_49 => exact absurd h0 (mq_call_no _ _ _ _ _ _)
  case h_50 => exact absurd h0 (mq_call_no _ _ _ _ _ _)
  all_goals first
    | exact mv_gon (mv_rf _) h0
    | exact mv_jn h0
    | (split at h0 <;> first | exact mv_gon (mv_rf _) h0 | exact mv_gon (mv_wr _ _ _) h0 | exact mv_gon (mv_mk _ _ _) h0 | exact mv_jn h0 | (cases h0; done) | (split at h0 <;> first | exact mv_gon (mv_rf _) h0 | exact mv_gon (mv_wr _ _ _) h0 | exact mv_gon (mv_mk _ _ _) h0 | exact mv_jn h0 | (cases h0; done) | (split at h0 <;> first | exact mv_gon (mv_rf _) h0 | exact mv_gon (mv_wr _ _ _) h0 | exact mv_gon (mv_mk _ _ _) h0 | exact mv_jn h0 | (cases h0; done) | (split at h0 <;> first | exact mv_gon (mv_rf _) h0 | exact mv_gon (mv_wr _ _ _) h0 | exact mv_gon (mv_mk _ _ _) h0 | exact mv_jn h0 | (cases h0; done) | (split at h0 <;> first | exact mv_gon (mv_rf _) h0 | exact mv_gon (mv_wr _ _ _) h0 | exact mv_gon (mv_mk _ _ _) h0 | exact mv_jn h0 | (cases h0; done))))))
theorem ms_mono : ∀ (n d mi pc : Nat) (ls : mq_L) (st : List Value) (h : mq_H) (o : Option (Option Value)) (h' : mq_H), mq_ex n d mi pc ls st h = some (o, h') → h.1 ≤ h'.1 ∧ h.2.1 ≤ h'.2.1
  | 0, d, mi, pc, ls, st, h, o, h', he => by simp [mq_ex] at he
  | n + 1, d, mi, pc, ls, st, h, o, h', he => by
    unfold mq_ex at he
    split at he
    next => obtain ⟨-, rfl, -⟩ := mq_ck_yes he; exact mv_rf _
    next pc2 ls2 st2 h2 hs =>
      have h1 := ms_mono n d mi pc2 ls2 st2 h2 o h' he
      unfold mq_st at hs
      split at hs
      next i k hi =>
        have h3 := mv_mono hs
        omega
      next => cases hs
    next mj as rest hs =>
      split at he
      next => cases he
      next d' =>
        split at he
        next hal =>
          split at he
          next v h1 hq =>
            have a1 := ms_mono n d' mj 0 _ [] h _ h1 hq
            have a2 := ms_mono n (d' + 1) mi (pc + 3) ls _ h1 o h' he
            omega
          next h1 hq =>
            have a1 := ms_mono n d' mj 0 _ [] h _ h1 hq
            split at he
            next pc2 k hd =>
              split at he
              next =>
                have a2 := ms_mono n (d' + 1) mi pc2 _ [] h1 o h' he
                omega
              next => cases he
            next => cases he
          next => cases he
        next => cases he
    next v hs => cases he; exact mv_rf _
    next hs =>
      split at he
      next => cases he; exact ⟨Nat.le_succ _, Nat.le_add_right _ _⟩
      next => cases he
theorem mk_kd_len : mk_kd.length = 307 := by decide +kernel
/-- what the tables say of a call -/
theorem mk_lk {mi idx mj kd : Nat} (h : mp_lk mi idx = some (mj, kd)) : (kd = 3 ∨ Cond.methodLink (mp_cn.getD (mp_of mi).1 "") idx (mk_y mj) ∈ mg_tbl) ∧ kd = mk_kd.getD mj 9 ∧ mj < 307 ∧ mk_okm mj kd = true := by
  have h0 := mk_okl_all _ (mk_oc_lt mi)
  have h1 := List.all_eq_true.mp h0 _ (mq_fd_mem h)
  unfold mk_oklq at h1
  simp only [Bool.and_eq_true, decide_eq_true_eq] at h1
  obtain ⟨a1, a2, a3⟩ := h1
  have hm : mj < 307 := by
    by_cases hm : mj < 307
    · exact hm
    · exfalso
      rw [List.getD_eq_getElem?_getD, List.getElem?_eq_none (by rw [mk_kd_len]; omega)] at a2
      exact a3 a2
  refine ⟨?_, a2, hm, ?_⟩
  · by_cases h3 : kd = 3
    · exact Or.inl h3
    · rw [if_neg h3] at a1
      exact Or.inr (mg_of a1)
  · have h4 := mk_okq_all mj hm
    unfold mk_okq at h4
    rw [← a2] at h4
    simp only [Bool.or_eq_true, decide_eq_true_eq] at h4
    exact h4.resolve_left a3
/-- what they say of its method -/
theorem mk_m {mj kd : Nat} (h : mk_okm mj kd = true) (h5 : ¬ kd = 5) : Cond.code (mk_y mj) (mk_b mj) (mp_mx mj) (mp_rt mj) ∈ mg_tbl ∧ (kd = 6 ∨ Cond.initialized (mk_y mj).cls ∈ mg_tbl) ∧ (if kd = 1 then Cond.static (mk_y mj) ∈ mg_tbl else Cond.instanceMethod (mk_y mj) ∈ mg_tbl) ∧
    (kd = 0 → Cond.selects (mk_y mj).cls (mk_y mj) (mk_y mj) ∈ mg_tbl ∧ (mk_y mj).cls = (if mp_ck mj = 11 then "java/lang/String" else mk_nm.getD (mp_ck mj) "") ∧ (mp_ck mj = 11 ∨ mp_ck mj < 11)) ∧ (kd = 2 ∨ kd = 3 → (mk_y mj).name = "<init>" ∧ mp_rt mj = none) ∧
    (mk_y mj).cls ≠ "java/lang/invoke/MethodHandle" ∧ (mk_y mj).cls ≠ "java/lang/invoke/VarHandle" ∧ (parseMethodDescriptor (mk_y mj).desc).map (fun d => d.parameters.length) = some (if kd = 1 then mp_np mj else mp_np mj - 1) ∧ (kd = 1 ∨ 1 ≤ mp_np mj) ∧ mp_mx mj ≤ 80 ∧ (mk_y mj).cls = mp_cn.getD (mp_of mj).1 "" ∧ (kd = 6 ∨ plainFor (mk_y mj) = true) := by
  unfold mk_okm at h
  simp only [Bool.and_eq_true, h5, if_false, or_false, false_or, decide_eq_true_eq, Bool.or_eq_true] at h
  obtain ⟨⟨⟨⟨⟨⟨⟨⟨⟨⟨⟨a1, a2⟩, a3⟩, a4⟩, a5⟩, a6⟩, a7⟩, a8⟩, a9⟩, a10⟩, a11⟩, a12⟩ := h
  refine ⟨mg_of a1, a2.imp id mg_of, ?_, fun q => ?_, fun q => ?_, a6, a7, a8, a9, a10, a11, a12⟩
  · by_cases h1 : kd = 1
    · rw [if_pos h1] at a3 ⊢; exact mg_of a3
    · rw [if_neg h1] at a3 ⊢; exact mg_of a3
  · rw [if_pos q] at a4
    simp only [Bool.and_eq_true, decide_eq_true_eq, Bool.or_eq_true] at a4
    exact ⟨mg_of a4.1.1, a4.1.2, a4.2⟩
  · rw [if_pos q] at a5
    simpa using a5
theorem ms_good {mj : Nat} (h : Cond.code (mk_y mj) (mk_b mj) (mp_mx mj) (mp_rt mj) ∈ mg_tbl) : GoodIn mg_tbl (ms_ws mj) := by
  intro w hw
  rcases List.mem_cons.mp hw with rfl | hw
  · exact ⟨h, mg_good h⟩
  · exact ⟨hw, mg_good hw⟩
section MU
variable {p : Program} {l : Launch} {e : Env} {R : Room} {s : State} {m : MethodId} {args : Array Value} {below : List Frame} {meth : Method} {c : Code} {H : Heap} {locs : List Loc} {Q : State → Prop} {pc cells slots mc ms : Nat} {lr : Array Slot} {D : va_G} {cA : Nat → ClassId} {B : Nat} {xa : Nat → Nat} {X : Nat → mq_E} {h h1 : mq_H}
/-- behind a call -/
theorem ms_after {st0 : List Value} {rest : List Value} {a : Array Value} {v : Option Value} (hr : va_Run p l e R s m args below meth c H locs cells slots mc ms (F0 m pc lr st0) (rest.map (mr_v B xa)) (ms_Q D cA B xa X v h1 a) (fun q => B ≤ q)) (hW : mr_W D cA B xa X s H locs h)
    (kk : ∀ (H' : Heap) (locs' : List Loc), mr_W D cA B xa X s H' locs' h1 → W p l e R s m args below meth c H' locs' (cells + mc) (slots + ms) Q (F0 m (pc + 3) lr ((v.toList ++ rest).map (mr_v B xa)))) : W p l e R s m args below meth c H locs cells slots Q (F0 m pc lr st0) := by
  intro T hT Y
  obtain ⟨v9, st₀, t, T', L, h0, X', hL, e1, e2, ⟨hv, hH, hF⟩, st⟩ := hr T hT Y
  have hv : v9 = v.map (mr_v B xa) := by injection hv
  subst hv
  have hS := hW.2.2.2.2.2
  obtain ⟨hz, hk⟩ := hF
  rw [h0] at hz hk
  have hS' : va_S (fun q => B ≤ q) s.heap T'.heap (locs ++ L) := ⟨Nat.le_trans hS.1 (by rw [e1]; exact hz), fun q h1 h2 => by rw [e1, hk q (Nat.lt_of_lt_of_le h1 hS.1) h2]; exact hS.2.1 q h1 h2, fun q hq => by
      rcases List.mem_append.mp hq with h | h
      · exact hS.2.2 q h
      · exact hL q h⟩
  obtain ⟨t2, a1, b1⟩ := kk T'.heap (locs ++ L) (ms_H.W (by rw [e1]; exact hH) hW.2.1 hS') T' rfl X'
  refine ⟨t2, st t2 ?_, b1⟩
  have e3 : (v.map (mr_v B xa)).toList ++ rest.map (mr_v B xa) = (v.toList ++ rest).map (mr_v B xa) := by cases v <;> simp
  show Steps p.tables e below (T'.setTop (F0 m (pc + 3) lr ((v.map (mr_v B xa)).toList ++ rest.map (mr_v B xa)))) t2
  rw [e3]
  exact a1
end MU
