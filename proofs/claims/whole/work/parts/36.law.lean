/-! THE LAW'S OWN FRAME -/
theorem mk_m5 {mj : Nat} (h : mk_okm mj 5 = true) : Cond.codeWith (mk_y mj) (mk_b mj) (mp_mx mj) (mp_rt mj) (mk_hh mj) ∈ mg_tbl ∧ Cond.initialized (mk_y mj).cls ∈ mg_tbl ∧ Cond.static (mk_y mj) ∈ mg_tbl ∧ (mk_y mj).cls ≠ "java/lang/invoke/MethodHandle" ∧ (mk_y mj).cls ≠ "java/lang/invoke/VarHandle" ∧ (parseMethodDescriptor (mk_y mj).desc).map (fun d => d.parameters.length) = some (mp_np mj) ∧ mp_mx mj ≤ 80 := by
  unfold mk_okm at h
  simp only [Bool.and_eq_true, if_true, decide_eq_true_eq, Bool.or_eq_true, or_true, true_or] at h
  simp at h
  obtain ⟨⟨⟨⟨⟨⟨⟨⟨a1, a2⟩, a3⟩, a6⟩, a7⟩, a8⟩, a10⟩, a11⟩, a12⟩ := h
  obtain ⟨q, q1, q2⟩ := a8
  exact ⟨mg_of a1, mg_of a2, mg_of a3, a6, a7, by rw [q1]; exact congrArg some q2, a10⟩
theorem ms_good5 {mj : Nat} (h : Cond.codeWith (mk_y mj) (mk_b mj) (mp_mx mj) (mp_rt mj) (mk_hh mj) ∈ mg_tbl) : GoodIn mg_tbl (ms_ws5 mj) := by
  intro w hw
  rcases List.mem_cons.mp hw with rfl | hw
  · exact ⟨h, mg_good h⟩
  · exact ⟨hw, mg_good hw⟩
section ML
variable {p : Program} {l : Launch} {e : Env} {R : Room} {s : State} {m : MethodId} {args : Array Value} {below : List Frame} {meth : Method} {c : Code} {H : Heap} {locs : List Loc} {Q : State → Prop} {pc : Nat} {lr : Array Slot} {D : va_G} {cA : Nat → ClassId} {B : Nat} {xa : Nat → Nat} {X : Nat → mq_E} {h h1 : mq_H}
set_option maxHeartbeats 4000000 in
/-- a call of a method with a table -/
theorem ms_call5 {mi mj n k d n0 w0 idx : Nat} {ls : mq_L} {st as rest : List Value} {v : Option Value} (hl : l.stackTraces = false) (hx : p.tables.exec = Jvm.exec) (hb : c.code = mk_b mi) (hml : c.maxLocals = mp_mx mi) (hown : s.vm.findClass (mp_cn.getD (mp_of mi).1 "") = some m.cls) (hts : ∀ w ∈ mg_tbl, w.before args s = true) (hE : ms_E D cA B xa X s) (hE2 : mt_E B s)
    (hfr : d + 1 ≤ R.frames) (hlo : 100 * (d + 1) ≤ R.locals) (hW : mr_W D cA B xa X s H locs h) (hL : mr_L B xa lr (mp_mx mi) ls) (hn0 : n0 ≤ h.1) (hw0 : w0 ≤ h.2.1) (hn1 : h1.1 < mr_X) (hrc : h1.1 - n0 ≤ R.cells) (hrs : h1.2.1 - w0 ≤ R.slots)
    (hi : mp_ins mi pc = some (.invokestatic idx, k)) (h0 : mq_do mi pc (.invokestatic idx) k ls st h = some (.inr (.inl (mj, as, rest)))) (h5 : mp_lk mi idx = some (mj, 5)) (hal : (mq_al as).length ≤ mp_mx mj) (he : mq_ex n d mj 0 (mq_en as (mp_mx mj)) [] h = some (some v, h1))
    (kk : ∀ (H' : Heap) (locs' : List Loc), mr_W D cA B xa X s H' locs' h1 → W p l e R s m args below meth c H' locs' (h1.1 - n0) (h1.2.1 - w0) Q (F0 m (pc + 3) lr ((v.toList ++ rest).map (mr_v B xa)))) :
    W p l e R s m args below meth c H locs (h.1 - n0) (h.2.1 - w0) Q (F0 m pc lr (st.map (mr_v B xa))) := by
  obtain ⟨hd, hln⟩ := md_at hi
  have hmo := ms_mono n d mj 0 _ [] h _ h1 he
  have hsize : lr.size = mp_mx mi := hL.2.1
  have hc : mq_call mi idx [1, 5] st h = some (.inr (.inl (mj, as, rest))) := h0
  obtain ⟨kd, hlk, hkk, hst, hlen, hsum, hv0, hvo⟩ := mv_call hc
  have hkd5 : kd = 5 := by have := h5.symm.trans hlk; simp at this; exact this.symm
  subst hkd5
  obtain ⟨hli, hkd, hmj, hok⟩ := mk_lk hlk
  obtain ⟨m1, m2, m3, m6, m7, m8, m10⟩ := mk_m5 hok
  obtain rfl : k = 3 := mr_ln hln (fun _ _ _ _ h => by cases h)
  have hroom : (ms_R d (h1.1 - h.1) (h1.2.1 - h.2.1)).frames + 1 ≤ R.frames ∧ 8 + (mp_mx mj + 11) + (ms_R d (h1.1 - h.1) (h1.2.1 - h.2.1)).locals ≤ R.locals := by
    refine ⟨hfr, ?_⟩
    show 8 + (mp_mx mj + 11) + 100 * d ≤ R.locals
    omega
  have hfit : h.1 - n0 + (h1.1 - h.1) ≤ R.cells ∧ h.2.1 - w0 + (h1.2.1 - h.2.1) ≤ R.slots := by omega
  have e1 : h.1 - n0 + (h1.1 - h.1) = h1.1 - n0 := by omega
  have e2 : h.2.1 - w0 + (h1.2.1 - h.2.1) = h1.2.1 - w0 := by omega
  have kk' : ∀ (H' : Heap) (locs' : List Loc), mr_W D cA B xa X s H' locs' h1 → W p l e R s m args below meth c H' locs' (h.1 - n0 + (h1.1 - h.1)) (h.2.1 - w0 + (h1.2.1 - h.2.1)) Q (F0 m (pc + 3) lr ((v.toList ++ rest).map (mr_v B xa))) := by
    rw [e1, e2]; exact kk
  have hpre : ∀ U : State, U.heap = H → s.WarmedH U.vm → ms_P2 D cA B xa X as h (as.map (mr_v B xa)).toArray U := fun U hU hV => ⟨⟨rfl, by rw [hU]; exact ms_H.of hW, hE.moved hV (by rw [hU, hW.1]; omega) (fun q hq => by rw [hU]; exact hW.old hq)⟩, hE2.moved hV (fun q hq => by rw [hU]; exact hW.old hq)⟩
  have hWt : ((rest.map (mr_v B xa)).map fun v => v.category).sum ≤ 8 := by
    have : (rest.map (mr_v B xa)).map (fun v => v.category) = rest.map fun v => v.category := by
      rw [List.map_map]
      exact List.map_congr_left (fun x _ => mr_cat B xa x)
    rw [this]; exact hsum
  have hstk : st.map (mr_v B xa) = (as.map (mr_v B xa)).reverse ++ rest.map (mr_v B xa) := by rw [hst, List.map_append, List.map_reverse]
  have hM := ms_met5 hl he hal hmj hkd.symm hn1 D cA B xa X
  refine ms_after (vx_runSW (As := as.map (mr_v B xa)) (rest := rest.map (mr_v B xa)) (n := mp_np mj) (hh := mk_hh mj) ⟨hx, hb, hml, hown, hts⟩ hM ⟨⟨rfl, rfl, hroom.1, hroom.2, pay_in hts (ms_good5 m1), List.mem_cons_self⟩, hts _ m1, hts _ m2, ⟨m6, m7⟩, fun sig hsig => ?_, hts _ (hli.resolve_left (by decide)), hts _ m3⟩ ⟨ms_blind2 D cA B xa X _ h, hpre⟩ rfl (by rw [List.length_map]; exact hlen) hsize hstk (lv_room hWt) hd hfit) hW kk'
  rw [hsig] at m8
  exact (Option.some.inj m8).symm
end ML
set_option maxHeartbeats 4000000 in
theorem ms_simL {l : Launch} (hl : l.stackTraces = false) : ∀ (n d pc : Nat) (ls : mq_L) (st : List Value) (h : mq_H) (v : Option Value) (h' : mq_H), mq_ex n d mp_law pc ls st h = some (some v, h') →
  ∀ (p : Program) (e : Env) (R : Room) (s : State) (m : MethodId) (args : Array Value) (below : List Frame) (meth : Method) (c : Code) (H : Heap) (locs : List Loc) (Q : State → Prop) (lr : Array Slot) (D : va_G) (cA : Nat → ClassId) (B : Nat) (xa : Nat → Nat) (X : Nat → mq_E) (n0 w0 : Nat),
  p.tables.exec = Jvm.exec → c.code = mk_b mp_law → c.maxLocals = mp_mx mp_law → s.vm.findClass (mp_cn.getD (mp_of mp_law).1 "") = some m.cls → (∀ w ∈ mg_tbl, w.before args s = true) → ms_E D cA B xa X s → mt_E B s → d ≤ R.frames → 100 * d ≤ R.locals →
  mr_W D cA B xa X s H locs h → mr_L B xa lr (mp_mx mp_law) ls → n0 ≤ h.1 → w0 ≤ h.2.1 → h'.1 < mr_X → h'.1 - n0 ≤ R.cells → h'.2.1 - w0 ≤ R.slots →
  (∀ (pc' : Nat) (ls' : mq_L) (st' : List Value) (lr' : Array Slot) (H' : Heap) (locs' : List Loc), mq_st mp_law pc' ls' st' h' = some (.inr (.inr (some v))) → mr_W D cA B xa X s H' locs' h' → W p l e R s m args below meth c H' locs' (h'.1 - n0) (h'.2.1 - w0) Q (F0 m pc' lr' (st'.map (mr_v B xa)))) →
  W p l e R s m args below meth c H locs (h.1 - n0) (h.2.1 - w0) Q (F0 m pc lr (st.map (mr_v B xa)))
  | 0, d, pc, ls, st, h, v, h', he => by simp [mq_ex] at he
  | n + 1, d, pc, ls, st, h, v, h', he => by
    intro p e R s m args below meth c H locs Q lr D cA B xa X n0 w0 hx hb hml hown hts hE hE2 hfr hlo hW hL hn0 hw0 hn hrc hrs hend
    have hmo := ms_mono (n + 1) d mp_law pc ls st h _ h' he
    have hnm : mp_inT.getD mp_law false = true → meth.name = "<init>" := fun q => absurd q (by decide +kernel)
    unfold mq_ex at he
    split at he
    next => rw [mq_ck_no (by decide)] at he; cases he
    next pc2 ls2 st2 h2 hs =>
      have hm2 := ms_mono n d mp_law pc2 ls2 st2 h2 _ h' he
      unfold mq_st at hs
      split at hs
      next i k hi =>
        obtain ⟨hd, hln⟩ := md_at hi
        have hm3 := mv_mono hs
        refine mr_step hx hb hown hts hE.2.1 hE.2.2.1 hE.2.2.2.1 (hE.2.2.2.2.1 mp_law) ?_ hnm hW (by omega) hL hn0 hw0 hd hln hs (by omega) (by omega) (fun lr' H' locs' hL' hW' => ?_)
        · intro idx v pc H locs cells slots lr rest hv hS9 hd9 kk9
          obtain ⟨rfl, hw⟩ := mk_sg hv
          exact va_gets hx hb hE.2.2.2.2.2.1 hS9 hown (hts _ hw) (fun _ h => h) hd9 kk9
        · exact ms_simL hl n d pc2 ls2 st2 h2 v h' he p e R s m args below meth c H' locs' Q lr' D cA B xa X n0 w0 hx hb hml hown hts hE hE2 hfr hlo hW' hL' (by omega) (by omega) hn hrc hrs hend
      next => cases hs
    next mj as rest hs =>
      split at he
      next => cases he
      next d' =>
        split at he
        next hal =>
          unfold mq_st at hs
          split at hs
          next i k hi =>
            split at he
            next v1 h1 hq =>
              have a1 := ms_mono n d' mj 0 _ [] h _ h1 hq
              have a2 := ms_mono n (d' + 1) mp_law (pc + 3) ls _ h1 _ h' he
              have hk : ∀ (H' : Heap) (locs' : List Loc), mr_W D cA B xa X s H' locs' h1 → W p l e R s m args below meth c H' locs' (h1.1 - n0) (h1.2.1 - w0) Q (F0 m (pc + 3) lr ((v1.toList ++ rest).map (mr_v B xa))) := fun H' locs' hW' =>
                ms_simL hl n (d' + 1) (pc + 3) ls (v1.toList ++ rest) h1 v h' he p e R s m args below meth c H' locs' Q lr D cA B xa X n0 w0 hx hb hml hown hts hE hE2 hfr hlo hW' hL (by omega) (by omega) hn hrc hrs hend
              by_cases h5 : ∃ idx, i = .invokestatic idx ∧ mp_lk mp_law idx = some (mj, 5)
              · obtain ⟨idx, rfl, h5⟩ := h5
                exact ms_call5 hl hx hb hml hown hts hE hE2 hfr hlo hW hL hn0 hw0 (by omega) (by omega) (by omega) hi hs h5 hal hq hk
              · exact ms_call (ms_sim n) hx hb hml hown hts hE hfr hlo hW hL hn0 hw0 (by omega) (by omega) (by omega) hi hs (fun idx q1 q2 => h5 ⟨idx, q1, q2⟩) hal hq hk
            next h1 hq =>
              have hno : mp_hd mp_law pc = none := by
                unfold mp_hd
                simp [mp_law]
              rw [hno] at he
              cases he
            next => cases he
          next => cases hs
        next => cases he
    next v9 hs =>
      cases he
      exact hend pc ls st lr H locs hs hW
    next hs =>
      split at he
      next => cases he
      next => cases he
