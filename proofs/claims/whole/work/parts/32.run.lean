/-! THE SIMULATION -/
theorem ms_obj {n d : Nat} {ls : mq_L} {h h1 : mq_H} {v : Option Value} (he : mq_ex n d 306 0 ls [] h = some (some v, h1)) : v = none ∧ h1 = h := by
  cases n with
  | zero => simp [mq_ex] at he
  | succ n =>
    have hi : mp_ins 306 0 = some (.return_, 1) := by decide +kernel
    have hr : mp_rt 306 = none := by decide +kernel
    have hs : mq_st 306 0 ls [] h = some (.inr (.inr (some none))) := by
      unfold mq_st
      rw [hi]
      simp [mq_do, hr]
    unfold mq_ex at he
    rw [hs] at he
    simp at he
    exact ⟨he.1.symm, he.2.symm⟩
theorem mk_kd6 {mj : Nat} (h : mj < 307) (h6 : 6 = mk_kd.getD mj 9) : mj = 306 := by
  have h2 : ∀ j, j < 307 → 6 = mk_kd.getD j 9 → j = 306 := by decide +kernel
  exact h2 mj h h6
theorem mk_hd5 {mj : Nat} (h : mj < 307) (h5 : ¬ 5 = mk_kd.getD mj 9) : ∀ q, mp_hd mj q = none := by
  have h2 : ∀ j, j < 307 → ¬ 5 = mk_kd.getD j 9 → ¬ j = 303 ∧ ¬ j = 304 := by decide +kernel
  obtain ⟨a, b⟩ := h2 mj h h5
  intro q
  unfold mp_hd
  simp [a, b]
/-- no method but the law calls one with a table -/
theorem mk_no5 {mj : Nat} (h : mj < 307) (h9 : ¬ mk_kd.getD mj 9 = 9) (h5 : ¬ 5 = mk_kd.getD mj 9) : ∀ idx mk, mp_lk mj idx ≠ some (mk, 5) := by
  have h2 : ∀ j, j < 307 → ¬ mk_kd.getD j 9 = 9 → ¬ 5 = mk_kd.getD j 9 → (mp_lkT.getD (mp_of j).1 []).all (fun q => decide (¬ q.2.2 = 5)) = true := by decide +kernel
  intro idx mk hc
  have h3 := List.all_eq_true.mp (h2 mj h h9 h5) _ (mq_fd_mem hc)
  simp at h3
theorem mk_ini {mj kd : Nat} (h : mj < 307) (hk : kd = mk_kd.getD mj 9) (h9 : ¬ kd = 9) : mp_inT.getD mj false = true → (mk_y mj).name = "<init>" := by
  have h2 : ∀ j, j < 307 → mp_inT.getD j false = true → (mk_y j).name = "<init>" := by decide +kernel
  exact h2 mj h
section MV
variable {p : Program} {l : Launch} {e : Env} {R : Room} {s : State} {m : MethodId} {args : Array Value} {below : List Frame} {meth : Method} {c : Code} {H : Heap} {locs : List Loc} {Q : State → Prop} {pc : Nat} {lr : Array Slot} {D : va_G} {cA : Nat → ClassId} {B : Nat} {xa : Nat → Nat} {X : Nat → mq_E} {h h1 : mq_H}
set_option maxHeartbeats 4000000 in
theorem ms_call {mi mj n k d n0 w0 : Nat} {i : Instr} {ls : mq_L} {st as rest : List Value} {v : Option Value} (hS : ms_Sim n) (hx : p.tables.exec = Jvm.exec) (hb : c.code = mk_b mi) (hml : c.maxLocals = mp_mx mi) (hown : s.vm.findClass (mp_cn.getD (mp_of mi).1 "") = some m.cls) (hts : ∀ w ∈ mg_tbl, w.before args s = true) (hE : ms_E D cA B xa X s)
    (hfr : d + 1 ≤ R.frames) (hlo : 100 * (d + 1) ≤ R.locals) (hW : mr_W D cA B xa X s H locs h) (hL : mr_L B xa lr (mp_mx mi) ls) (hn0 : n0 ≤ h.1) (hw0 : w0 ≤ h.2.1) (hn1 : h1.1 < mr_X) (hrc : h1.1 - n0 ≤ R.cells) (hrs : h1.2.1 - w0 ≤ R.slots)
    (hi : mp_ins mi pc = some (i, k)) (h0 : mq_do mi pc i k ls st h = some (.inr (.inl (mj, as, rest)))) (h5 : ∀ idx, i = .invokestatic idx → mp_lk mi idx ≠ some (mj, 5)) (hal : (mq_al as).length ≤ mp_mx mj) (he : mq_ex n d mj 0 (mq_en as (mp_mx mj)) [] h = some (some v, h1))
    (kk : ∀ (H' : Heap) (locs' : List Loc), mr_W D cA B xa X s H' locs' h1 → W p l e R s m args below meth c H' locs' (h1.1 - n0) (h1.2.1 - w0) Q (F0 m (pc + 3) lr ((v.toList ++ rest).map (mr_v B xa)))) :
    W p l e R s m args below meth c H locs (h.1 - n0) (h.2.1 - w0) Q (F0 m pc lr (st.map (mr_v B xa))) := by
  obtain ⟨hd, hln⟩ := md_at hi
  have hmo := ms_mono n d mj 0 _ [] h _ h1 he
  have hn : h.1 < mr_X := by omega
  have hsize : lr.size = mp_mx mi := hL.2.1
  have key : ∃ idx kinds, (i = .invokevirtual idx ∧ kinds = [0] ∨ i = .invokestatic idx ∧ kinds = [1, 5] ∨ i = .invokespecial idx ∧ kinds = [2, 3, 6]) ∧ mq_call mi idx kinds st h = some (.inr (.inl (mj, as, rest))) := by
    rcases mv_plain h0 with ⟨idx, hi2, hc⟩ | ⟨idx, hi2, hc⟩ | ⟨idx, hi2, hc⟩ | ⟨-, x, ty, -, hz, -⟩ | ⟨-, x, -, hz, -⟩ | ⟨-, -, hz⟩ | ⟨-, -, hz, -⟩ | ⟨idx, w, -, -, -, hz⟩
    · exact ⟨idx, _, Or.inl ⟨hi2, rfl⟩, hc⟩
    · exact ⟨idx, _, Or.inr (Or.inl ⟨hi2, rfl⟩), hc⟩
    · exact ⟨idx, _, Or.inr (Or.inr ⟨hi2, rfl⟩), hc⟩
    · cases hz
    · cases hz
    · rcases hz with ⟨x, -, hz⟩ | ⟨-, hz⟩ <;> cases hz
    · cases hz
    · cases hz
  obtain ⟨idx, kinds, hik, hc⟩ := key
  obtain ⟨kd, hlk, hkk, hst, hlen, hsum, hv0, hvo⟩ := mv_call hc
  have hk5 : ¬ kd = 5 := by
    intro q
    subst q
    rcases hik with ⟨-, rfl⟩ | ⟨q, -⟩ | ⟨-, rfl⟩
    · simp at hkk
    · exact h5 idx q hlk
    · simp at hkk
  obtain ⟨hli, hkd, hmj, hok⟩ := mk_lk hlk
  obtain ⟨m1, m2, m3, m4, m5, m6, m7, m8, m9, m10, m11, m12⟩ := mk_m hok hk5
  have hk9 : ¬ mk_kd.getD mj 9 = 9 := by
    rw [← hkd]
    rcases hik with ⟨-, rfl⟩ | ⟨-, rfl⟩ | ⟨-, rfl⟩ <;> simp at hkk <;> omega
  have hk3 : k = 3 := by
    rcases hik with ⟨rfl, -⟩ | ⟨rfl, -⟩ | ⟨rfl, -⟩ <;> exact mr_ln hln (fun _ _ _ _ h => by cases h)
  subst hk3
  have hroom : (ms_R d (h1.1 - h.1) (h1.2.1 - h.2.1)).frames + 1 ≤ R.frames ∧ 8 + (mp_mx mj + 11) + (ms_R d (h1.1 - h.1) (h1.2.1 - h.2.1)).locals ≤ R.locals := by
    refine ⟨hfr, ?_⟩
    show 8 + (mp_mx mj + 11) + 100 * d ≤ R.locals
    omega
  have hfit : h.1 - n0 + (h1.1 - h.1) ≤ R.cells ∧ h.2.1 - w0 + (h1.2.1 - h.2.1) ≤ R.slots := by omega
  have e1 : h.1 - n0 + (h1.1 - h.1) = h1.1 - n0 := by omega
  have e2 : h.2.1 - w0 + (h1.2.1 - h.2.1) = h1.2.1 - w0 := by omega
  have kk' : ∀ (H' : Heap) (locs' : List Loc), mr_W D cA B xa X s H' locs' h1 → W p l e R s m args below meth c H' locs' (h.1 - n0 + (h1.1 - h.1)) (h.2.1 - w0 + (h1.2.1 - h.2.1)) Q (F0 m (pc + 3) lr ((v.toList ++ rest).map (mr_v B xa))) := by
    rw [e1, e2]; exact kk
  have hpre : ∀ U : State, U.heap = H → s.WarmedH U.vm → ms_P D cA B xa X as h (as.map (mr_v B xa)).toArray U := fun U hU hV => ⟨rfl, by rw [hU]; exact ms_H.of hW, hE.moved hV (by rw [hU, hW.1]; omega) (fun q hq => by rw [hU]; exact hW.old hq)⟩
  have hWt : ((rest.map (mr_v B xa)).map fun v => v.category).sum ≤ 8 := by
    have : (rest.map (mr_v B xa)).map (fun v => v.category) = rest.map fun v => v.category := by
      rw [List.map_map]
      exact List.map_congr_left (fun x _ => mr_cat B xa x)
    rw [this]; exact hsum
  have hstk : st.map (mr_v B xa) = (as.map (mr_v B xa)).reverse ++ rest.map (mr_v B xa) := by rw [hst, List.map_append, List.map_reverse]
  by_cases hk6 : kd = 6
  · subst hk6
    have := mk_kd6 hmj hkd
    subst this
    obtain ⟨rfl, rfl⟩ := ms_obj he
    obtain ⟨a, as', rfl⟩ := hvo (by decide) (by decide)
    have hl0 : as' = [] := by
      have h9 : (Value.ref a :: as').length = 1 := by rw [hlen]; decide +kernel
      simpa using h9
    subst hl0
    have hi3 : i = .invokespecial idx := by
      rcases hik with ⟨-, rfl⟩ | ⟨-, rfl⟩ | ⟨q, -⟩
      · simp at hkk
      · simp at hkk
      · exact q
    subst hi3
    rw [hstk]
    have hc1 : Cond.code (mk_y 306) (mk_b 306) (mp_mx 306) (mp_rt 306) = Cond.code Lib.objectInit ⟨#[0xb1]⟩ 1 none := by decide +kernel
    have hy1 : mk_y 306 = Lib.objectInit := by decide +kernel
    rw [hc1] at m1
    rw [hy1] at m3
    refine W.objInit hx hb hown (idx := idx) (hts _ (by have := hli.resolve_left (by decide); rw [hy1] at this; exact this)) (hts _ m3) (hts _ m1) (g := F0 m pc lr ((([Value.ref a]).map (mr_v B xa)).reverse ++ rest.map (mr_v B xa))) rfl (by rw [hml]; exact hsize) (a := mr_a B xa a) (rest := rest.map (mr_v B xa)) rfl hd (by omega) (by show 2 * 0 + _ + 12 ≤ _; omega) ?_
    exact kk H locs hW
  · have hpl := m12.resolve_left hk6
    have hini := m2.resolve_left hk6
    have hM := ms_met hS he hal hpl (mk_hd5 hmj (by rw [← hkd]; exact fun q => hk5 q.symm)) (mk_no5 hmj hk9 (by rw [← hkd]; exact fun q => hk5 q.symm)) m11 (mk_ini hmj hkd (by rw [hkd]; exact hk9)) hn1 l D cA B xa X
    by_cases hk0 : kd = 0
    · subst hk0
      obtain ⟨a, as', fs, rfl, ho⟩ := hv0 rfl
      obtain ⟨s1, s2, s3⟩ := m4 rfl
      have hi3 : i = .invokevirtual idx := by
        rcases hik with ⟨q, -⟩ | ⟨-, rfl⟩ | ⟨-, rfl⟩
        · exact q
        · simp at hkk
        · simp at hkk
      subst hi3
      have hrecv : ∃ cellB : Cell, H[mr_a B xa a]? = some cellB ∧ cellB.vm.isStatics = false ∧ s.vm.findClass (mk_y mj).cls = some cellB.cls := by
        rcases hW.obj hn ho with ⟨g1, g2, g3, g4, cell, q1, q2, q3, -⟩ | ⟨j, g1, g2⟩
        · rw [if_neg (by omega)] at s2
          exact ⟨cell, by rw [g2]; exact q1, by rw [q3]; rfl, by rw [s2, q2]; exact (hE.2.1.1 _ _ (mk_cl_at _ g3)).2.1⟩
        · have h9 := (hE.2.2.1 j).2
          rw [g2] at h9
          obtain ⟨c1, v0, -, ⟨cell, y1, y2, y3, -⟩, -⟩ := h9
          rw [if_pos c1] at s2
          exact ⟨cell, by rw [g1, mr_a_hi, hW.old (hE.2.2.1 j).1]; exact y1, y2, by rw [s2]; exact y3⟩
      have hnn : as'.length = mp_np mj - 1 := by have h9 : as'.length + 1 = mp_np mj := hlen; omega
      refine ms_after (va_runV (C := (mk_y mj).cls) (b := mr_a B xa a) (As := as'.map (mr_v B xa)) (rest := rest.map (mr_v B xa)) (n := mp_np mj - 1) ⟨hx, hb, hml, hown, hts⟩ hM ⟨callB_of (mp_np mj - 1) hts (ms_good m1) rfl rfl rfl (hts _ hini) (hts _ (hli.resolve_left (by decide))) ⟨m6, m7, by rw [m8]; rfl⟩ hroom, hts _ m3, hts _ s1⟩ ⟨ms_blind D cA B xa X _ h, hrecv, hpre⟩ rfl (by rw [List.length_map]; exact hnn) hsize (by show st.map (mr_v B xa) = _; rw [hstk]; simp [mr_v]) (lv_room hWt) hd hfit) hW kk'
    · by_cases hk1 : kd = 1
      · subst hk1
        have hi3 : i = .invokestatic idx := by
          rcases hik with ⟨-, rfl⟩ | ⟨q, -⟩ | ⟨-, rfl⟩
          · simp at hkk
          · exact q
          · simp at hkk
        subst hi3
        refine ms_after (va_runS (As := as.map (mr_v B xa)) (rest := rest.map (mr_v B xa)) (n := mp_np mj) ⟨hx, hb, hml, hown, hts⟩ hM ⟨callB_of (mp_np mj) hts (ms_good m1) rfl rfl rfl (hts _ hini) (hts _ (hli.resolve_left (by decide))) ⟨m6, m7, by rw [m8]; rfl⟩ hroom, hts _ m3⟩ ⟨ms_blind D cA B xa X _ h, hpre⟩ rfl (by rw [List.length_map]; exact hlen) hsize hstk (lv_room hWt) hd hfit) hW kk'
      · obtain ⟨a, as', rfl⟩ := hvo hk0 (by omega)
        have hi3 : i = .invokespecial idx := by
          rcases hik with ⟨-, rfl⟩ | ⟨-, rfl⟩ | ⟨q, -⟩
          · simp at hkk; omega
          · simp at hkk; omega
          · exact q
        subst hi3
        have hnn : as'.length = mp_np mj - 1 := by have h9 : as'.length + 1 = mp_np mj := hlen; omega
        rw [if_neg hk1] at m3 m8
        have h23 : kd = 2 ∨ kd = 3 := by
          rcases hik with ⟨q, -⟩ | ⟨q, -⟩ | ⟨-, rfl⟩
          · cases q
          · cases q
          · simp at hkk; omega
        obtain ⟨i1, i2⟩ := m5 h23
        have hwn : ms_ws mj = Cond.code (mk_y mj) (mk_b mj) (mp_mx mj) none :: mg_tbl := by unfold ms_ws; rw [i2]
        rcases h23 with rfl | rfl
        · refine ms_after (va_runI (b := mr_a B xa a) (As := as'.map (mr_v B xa)) (rest := rest.map (mr_v B xa)) (n := mp_np mj - 1) ⟨hx, hb, hml, hown, hts⟩ hM ⟨callB_of (mp_np mj - 1) hts (ms_good m1) hwn rfl rfl (hts _ hini) (hts _ (hli.resolve_left (by decide))) ⟨m6, m7, m8⟩ hroom, i1, hts _ m3⟩ ⟨ms_blind D cA B xa X _ h, hpre⟩ rfl (by rw [List.length_map]; exact hnn) hsize (by show st.map (mr_v B xa) = _; rw [hstk]; simp [mr_v]) (lv_room hWt) hd hfit) hW kk'
        · refine ms_after (va_runIN (host := mk_host) (b := mr_a B xa a) (As := as'.map (mr_v B xa)) (rest := rest.map (mr_v B xa)) (n := mp_np mj - 1) ⟨hx, hb, hml, hown, hts⟩ hM ⟨va_cnB (mp_np mj - 1) hts (ms_good m1) hwn rfl rfl (hE.2.2.2.2.2.2.1 mi idx mj hlk) (hts _ hini) ⟨m6, m7, m8⟩ hroom, i1, hts _ m3⟩ ⟨ms_blind D cA B xa X _ h, hpre⟩ rfl (by rw [List.length_map]; exact hnn) hsize (by show st.map (mr_v B xa) = _; rw [hstk]; simp [mr_v]) (lv_room hWt) hd hfit) hW kk'
end MV
set_option maxHeartbeats 4000000 in
theorem ms_sim : ∀ n, ms_Sim n
  | 0 => by
    intro d mi pc ls st h v h' he
    simp [mq_ex] at he
  | n + 1 => by
    intro d mi pc ls st h v h' he h298 hhd h5 p l e R s m args below meth c H locs Q lr D cA B xa X n0 w0 hx hb hml hown hts hE hnm hfr hlo hW hL hn0 hw0 hn hrc hrs hend
    have hmo := ms_mono (n + 1) d mi pc ls st h _ h' he
    unfold mq_ex at he
    split at he
    next => rw [mq_ck_no h298] at he; cases he
    next pc2 ls2 st2 h2 hs =>
      have hm2 := ms_mono n d mi pc2 ls2 st2 h2 _ h' he
      unfold mq_st at hs
      split at hs
      next i k hi =>
        obtain ⟨hd, hln⟩ := md_at hi
        have hm3 := mv_mono hs
        refine mr_step hx hb hown hts hE.2.1 hE.2.2.1 hE.2.2.2.1 (hE.2.2.2.2.1 mi) ?_ hnm hW (by omega) hL hn0 hw0 hd hln hs (by omega) (by omega) (fun lr' H' locs' hL' hW' => ?_)
        · intro idx v pc H locs cells slots lr rest hv hS9 hd9 kk9
          obtain ⟨rfl, hw⟩ := mk_sg hv
          exact va_gets hx hb hE.2.2.2.2.2.1 hS9 hown (hts _ hw) (fun _ h => h) hd9 kk9
        · exact ms_sim n d mi pc2 ls2 st2 h2 v h' he h298 hhd h5 p l e R s m args below meth c H' locs' Q lr' D cA B xa X n0 w0 hx hb hml hown hts hE hnm hfr hlo hW' hL' (by omega) (by omega) hn hrc hrs hend
      next => cases hs
    next mj as rest hs =>
      split at he
      next => cases he
      next d' =>
        split at he
        next hal =>
          split at he
          next v1 h1 hq =>
            have a1 := ms_mono n d' mj 0 _ [] h _ h1 hq
            have a2 := ms_mono n (d' + 1) mi (pc + 3) ls _ h1 _ h' he
            unfold mq_st at hs
            split at hs
            next i k hi =>
              refine ms_call (ms_sim n) hx hb hml hown hts hE hfr hlo hW hL hn0 hw0 (by omega) (by omega) (by omega) hi hs (fun idx _ => h5 idx mj) hal hq (fun H' locs' hW' => ?_)
              exact ms_sim n (d' + 1) mi (pc + 3) ls (v1.toList ++ rest) h1 v h' he h298 hhd h5 p l e R s m args below meth c H' locs' Q lr D cA B xa X n0 w0 hx hb hml hown hts hE hnm hfr hlo hW' hL (by omega) (by omega) hn hrc hrs hend
            next => cases hs
          next h1 hq =>
            rw [hhd pc] at he
            cases he
          next => cases he
        next => cases he
    next v9 hs =>
      cases he
      exact hend pc ls st lr H locs hs hW
    next hs =>
      split at he
      next => cases he
      next => cases he
