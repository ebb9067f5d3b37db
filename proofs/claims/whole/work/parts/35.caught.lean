/-! FRAMES THAT CATCH -/
def ms_P2 (D : va_G) (cA : Nat → ClassId) (B : Nat) (xa : Nat → Nat) (X : Nat → mq_E) (as : List Value) (h : mq_H) : Array Value → State → Prop := fun v U => ms_P D cA B xa X as h v U ∧ mt_E B U
theorem ms_blind2 (D : va_G) (cA : Nat → ClassId) (B : Nat) (xa : Nat → Nat) (X : Nat → mq_E) (as : List Value) (h : mq_H) : FrameBlind (ms_P2 D cA B xa X as h) := by
  intro a U g mk hp
  exact ⟨ms_blind D cA B xa X as h a U g mk hp.1, hp.2.moved (State.WarmedH.refl U) (fun _ _ => rfl)⟩
theorem ms_metX {n d mj : Nat} {as : List Value} {h h1 : mq_H} {l : Launch} (hl : l.stackTraces = false) (he : mq_ex n d mj 0 (mq_en as (mp_mx mj)) [] h = some (none, h1)) (hal : (mq_al as).length ≤ mp_mx mj) (hpl : plainName (mk_y mj).cls = true) (hhd : ∀ q, mp_hd mj q = none) (h5 : ∀ idx mk, mp_lk mj idx ≠ some (mk, 5)) (hcls : (mk_y mj).cls = mp_cn.getD (mp_of mj).1 "") (hini : mp_inT.getD mj false = true → (mk_y mj).name = "<init>") (hn : h1.1 < mr_X)
    (D : va_G) (cA : Nat → ClassId) (B : Nat) (xa : Nat → Nat) (X : Nat → mq_E) :
    vx_Met l (mk_y mj) (ms_ws mj) (ms_R d (h1.1 - h.1) (h1.2.1 - h.2.1)) (ms_P2 D cA B xa X as h) (fun _ _ _ _ => False) (mt_X D cA B xa X h1) (h1.1 - h.1) (h1.2.1 - h.2.1) (fun q => B ≤ q) := by
  refine vx_ofW (cc := mk_b mj) (maxL := mp_mx mj) (ret := mp_rt mj) hpl rfl ?_
  intro p e s m args below meth c s₁ Bd hml hout hv
  obtain ⟨⟨rfl, hH, hE⟩, hE2⟩ := hv
  have hts0 := atoms_spec (ws := ms_ws mj) Bd.pre
  have hts : ∀ w ∈ mg_tbl, w.before (as.map (mr_v B xa)).toArray s = true := fun w hw => hts0 w (List.mem_cons_of_mem _ hw)
  have hown : s.vm.findClass (mp_cn.getD (mp_of mj).1 "") = some m.cls := by rw [← hcls]; exact findClass_of_methodNamed Bd.named
  have hnm : mp_inT.getD mj false = true → meth.name = "<init>" := fun q => by rw [(name_of_methodNamed Bd.named Bd.method).1]; exact hini q
  rw [lg_entry_eq]
  have h9 := ms_simX hl n d mj 0 (mq_en as (mp_mx mj)) [] h h1 he hhd h5 p e (headSpec (ms_ws mj) (ms_R d (h1.1 - h.1) (h1.2.1 - h.2.1))).room s m (as.map (mr_v B xa)).toArray below meth c s.heap [] (fun _ _ _ _ => False) _ D cA B xa X h.1 h.2.1 Bd.exec Bd.bytes hml hown hts hE hE2 hnm hout Bd.notSynchronized (Nat.le_refl _) (Nat.le_refl _) (hH.W hE.1 va_S.rf) (mr_entry hal) (Nat.le_refl _) (Nat.le_refl _) hn (Nat.le_refl _) (Nat.le_refl _)
  rw [Nat.sub_self, Nat.sub_self] at h9
  exact h9
theorem mr_L.s1n {B : Nat} {xa : Nat → Nat} {lr lr' : Array Slot} {n i : Nat} {ls : mq_L} {w : Value} (h : mr_L B xa lr n ls) (h' : lv_has lr' n ((i, w) :: (mr_as B xa ls).filter (fun q => !(q.1 == i) && !(q.1 + 1 == i && q.2.category == 2)))) : mr_L B xa lr' n ((mq_s1 ls i .null).set i none) := by
  refine ⟨by rw [List.length_set, mr_s1_len]; exact h.1, h'.1, h'.2.1, fun j w hj => ?_⟩
  have hji : ¬ j = i := by
    intro e
    subst e
    rw [List.getElem?_set] at hj
    simp at hj
  rw [List.getElem?_set, if_neg (fun q => hji q.symm)] at hj
  rcases mr_s1 ls i .null j w hj with ⟨a, b⟩ | ⟨a, b, c⟩
  · exact absurd a hji
  · refine h'.2.2 (j, mr_v B xa w) (List.mem_cons_of_mem _ (List.mem_filter.mpr ⟨mr_as_in b, ?_⟩))
    have hc : (mr_v B xa w).category = w.category := mr_cat B xa w
    by_cases e : j + 1 = i
    · have := c e
      simp [a, hc, this]
    · simp [a, e]
section MC
variable {p : Program} {l : Launch} {e : Env} {R : Room} {s : State} {m : MethodId} {args : Array Value} {below : List Frame} {meth : Method} {c : Code} {H : Heap} {locs : List Loc} {Q : State → Prop} {pc : Nat} {lr : Array Slot} {D : va_G} {cA : Nat → ClassId} {B : Nat} {xa : Nat → Nat} {X : Nat → mq_E} {h h1 : mq_H}
set_option maxHeartbeats 4000000 in
/-- a call of an object's method that throws, caught here -/
theorem ms_catch {mi mj n k d n0 w0 pc2 kk2 : Nat} {i : Instr} {ls : mq_L} {st as rest : List Value} (hl : l.stackTraces = false) (hx : p.tables.exec = Jvm.exec) (hb : c.code = mk_b mi) (hml : c.maxLocals = mp_mx mi) (hown : s.vm.findClass (mp_cn.getD (mp_of mi).1 "") = some m.cls) (hts : ∀ w ∈ mg_tbl, w.before args s = true) (hE : ms_E D cA B xa X s) (hE2 : mt_E B s) (htb : c.exceptionTable.toList = tableOf (mk_hh mi))
    (hfr : d + 1 ≤ R.frames) (hlo : 100 * (d + 1) ≤ R.locals) (hW : mr_W D cA B xa X s H locs h) (hL : mr_L B xa lr (mp_mx mi) ls) (hn0 : n0 ≤ h.1) (hw0 : w0 ≤ h.2.1) (hn1 : h1.1 < mr_X) (hrc : h1.1 - n0 ≤ R.cells) (hrs : h1.2.1 - w0 ≤ R.slots)
    (hi : mp_ins mi pc = some (i, k)) (h0 : mq_do mi pc i k ls st h = some (.inr (.inl (mj, as, rest)))) (hst5 : ∀ idx, i ≠ .invokestatic idx) (hsp : ∀ idx, i ≠ .invokespecial idx) (hal : (mq_al as).length ≤ mp_mx mj) (he : mq_ex n d mj 0 (mq_en as (mp_mx mj)) [] h = some (none, h1)) (hh : mp_hd mi pc = some (pc2, kk2)) (hk2 : kk2 < ls.length)
    (kk : ∀ (lr' : Array Slot) (H' : Heap) (locs' : List Loc), mr_L B xa lr' (mp_mx mi) ((mq_s1 ls kk2 .null).set kk2 none) → mr_W D cA B xa X s H' locs' h1 → W p l e R s m args below meth c H' locs' (h1.1 - n0) (h1.2.1 - w0) Q (F0 m pc2 lr' [])) :
    W p l e R s m args below meth c H locs (h.1 - n0) (h.2.1 - w0) Q (F0 m pc lr (st.map (mr_v B xa))) := by
  obtain ⟨hd, hln⟩ := md_at hi
  have hmo := ms_mono n d mj 0 _ [] h _ h1 he
  have hn : h.1 < mr_X := by omega
  have hsize : lr.size = mp_mx mi := hL.2.1
  have key : ∃ idx, i = .invokevirtual idx ∧ mq_call mi idx [0] st h = some (.inr (.inl (mj, as, rest))) := by
    rcases mv_plain h0 with ⟨idx, hi2, hc⟩ | ⟨idx, hi2, hc⟩ | ⟨idx, hi2, hc⟩ | ⟨-, x, ty, -, hz, -⟩ | ⟨-, x, -, hz, -⟩ | ⟨-, -, hz⟩ | ⟨-, -, hz, -⟩ | ⟨idx, w, -, -, -, hz⟩
    · exact ⟨idx, hi2, hc⟩
    · exact absurd hi2 (hst5 idx)
    · exact absurd hi2 (hsp idx)
    · cases hz
    · cases hz
    · rcases hz with ⟨x, -, hz⟩ | ⟨-, hz⟩ <;> cases hz
    · cases hz
    · cases hz
  obtain ⟨idx, rfl, hc⟩ := key
  obtain ⟨kd, hlk, hkk, hst, hlen, hsum, hv0, hvo⟩ := mv_call hc
  have hk0 : kd = 0 := by simpa using hkk
  subst hk0
  obtain ⟨hli, hkd, hmj, hok⟩ := mk_lk hlk
  obtain ⟨m1, m2, m3, m4, m5, m6, m7, m8, m9, m10, m11, m12⟩ := mk_m hok (by decide)
  obtain rfl : k = 3 := mr_ln hln (fun _ _ _ _ h => by cases h)
  have hroom : (ms_R d (h1.1 - h.1) (h1.2.1 - h.2.1)).frames + 1 ≤ R.frames ∧ 8 + (mp_mx mj + 11) + (ms_R d (h1.1 - h.1) (h1.2.1 - h.2.1)).locals ≤ R.locals := by
    refine ⟨hfr, ?_⟩
    show 8 + (mp_mx mj + 11) + 100 * d ≤ R.locals
    omega
  have hfit : h.1 - n0 + (h1.1 - h.1) ≤ R.cells ∧ h.2.1 - w0 + (h1.2.1 - h.2.1) ≤ R.slots := by omega
  have e1 : h.1 - n0 + (h1.1 - h.1) = h1.1 - n0 := by omega
  have e2 : h.2.1 - w0 + (h1.2.1 - h.2.1) = h1.2.1 - w0 := by omega
  have hpre : ∀ U : State, U.heap = H → s.WarmedH U.vm → ms_P2 D cA B xa X as h (as.map (mr_v B xa)).toArray U := fun U hU hV => ⟨⟨rfl, by rw [hU]; exact ms_H.of hW, hE.moved hV (by rw [hU, hW.1]; omega) (fun q hq => by rw [hU]; exact hW.old hq)⟩, hE2.moved hV (fun q hq => by rw [hU]; exact hW.old hq)⟩
  have hWt : ((rest.map (mr_v B xa)).map fun v => v.category).sum ≤ 8 := by
    have : (rest.map (mr_v B xa)).map (fun v => v.category) = rest.map fun v => v.category := by
      rw [List.map_map]
      exact List.map_congr_left (fun x _ => mr_cat B xa x)
    rw [this]; exact hsum
  have hstk : st.map (mr_v B xa) = (as.map (mr_v B xa)).reverse ++ rest.map (mr_v B xa) := by rw [hst, List.map_append, List.map_reverse]
  obtain ⟨a, as', fs, rfl, ho⟩ := hv0 rfl
  obtain ⟨s1, s2, s3⟩ := m4 rfl
  have hrecv : ∃ cellB : Cell, H[mr_a B xa a]? = some cellB ∧ cellB.vm.isStatics = false ∧ s.vm.findClass (mk_y mj).cls = some cellB.cls := by
    rcases hW.obj hn ho with ⟨g1, g2, g3, g4, cell, q1, q2, q3, -⟩ | ⟨j, g1, g2⟩
    · rw [if_neg (by omega)] at s2
      exact ⟨cell, by rw [g2]; exact q1, by rw [q3]; rfl, by rw [s2, q2]; exact (hE.2.1.1 _ _ (mk_cl_at _ g3)).2.1⟩
    · have h9 := (hE.2.2.1 j).2
      rw [g2] at h9
      obtain ⟨c1, v0, -, ⟨cell, y1, y2, y3, -⟩, -⟩ := h9
      rw [if_pos c1] at s2
      exact ⟨cell, by rw [g1, mr_a_hi, hW.old (hE.2.2.1 j).1]; exact y1, y2, by rw [s2]; exact y3⟩
  have hnn : as'.length = mp_np mj - 1 := by have h9 : as'.length + 1 = mp_np mj := hlen; omega
  have hM := ms_metX hl he hal (mk_kd0p mj hmj hkd.symm) (mk_hd5 hmj (by rw [← hkd]; decide)) (mk_no5 hmj (by rw [← hkd]; decide) (by rw [← hkd]; decide)) m11 (mk_ini hmj hkd (by decide)) hn1 D cA B xa X
  have hrun := vx_runV (C := (mk_y mj).cls) (b := mr_a B xa a) (As := as'.map (mr_v B xa)) (rest := rest.map (mr_v B xa)) (n := mp_np mj - 1) (p := p) (e := e) (below := below) (meth := meth) (locs := locs) (cells := h.1 - n0) (slots := h.2.1 - w0) (g := F0 m pc lr (st.map (mr_v B xa))) ⟨hx, hb, hml, hown, hts⟩ hM ⟨callB_of (mp_np mj - 1) hts (ms_good m1) rfl rfl rfl (hts _ (m2.resolve_left (by decide))) (hts _ (hli.resolve_left (by decide))) ⟨m6, m7, by rw [m8]; rfl⟩ hroom, hts _ m3, hts _ s1⟩ ⟨ms_blind2 D cA B xa X _ h, hrecv, hpre⟩ rfl (by rw [List.length_map]; exact hnn) hsize (by show st.map (mr_v B xa) = _; rw [hstk]; simp [mr_v]) (lv_room hWt) hd hfit
  obtain ⟨ha, hb9, hp, ct, t1, t2, t3, t4, t5, t6⟩ := mt_hd hh
  obtain ⟨hd3, -⟩ := md_at t3
  intro T hT Y
  rcases hrun T hT Y with ⟨v, st₀, t, T', L, -, -, -, -, -, hf, -⟩ | ⟨q, st₀, t, T', L, E, ce, h0', X', hL', e3, e4, ⟨rfl, hH, hF⟩, hce, hcv, hcl, hsteps⟩
  · exact hf.elim
  · have hS := hW.2.2.2.2.2
    obtain ⟨k1, k2, k3⟩ := vx_keep (A0 := fun q => B ≤ q) (A1 := fun q => B ≤ q) (free := fun q => B ≤ q) h0' e3 hS (fun _ _ h => h) (fun _ h => h) hL' hF
    have hW' : mr_W D cA B xa X s T'.heap (locs ++ L) h1 := ms_H.W (by rw [e3]; exact hH) hW.2.1 k3
    have hWc : W p l e R s m args below meth c T'.heap (locs ++ L) (h.1 - n0 + (h1.1 - h.1)) (h.2.1 - w0 + (h1.2.1 - h.2.1)) Q (F0 m hp lr [.ref q]) := by
      refine lv_astore hx hb hd3 hL.has (by rw [← hL.1]; exact hk2) rfl (fun lr' hl' => ?_)
      rw [e1, e2, ← t4]
      exact kk lr' _ _ (hL.s1n hl') hW'
    have hcat := vx_catch (own := mp_cn.getD (mp_of mi).1 "") (name := mt_cls) (E := mt_cls) (ce := ce) (q := q) (pc := pc) (ls := lr) (rest := rest.map (mr_v B xa)) hown [] ⟨ha, hb9, hp, ct⟩ [] (by rw [htb, t1]; rfl) (fun z hz => by cases hz) t2 t5 (hts _ t6) (va_Nw.use rfl hE2.2.2.2) (by rw [e3]; exact hce) hcv hcl hWc
    obtain ⟨t9, a1, b1⟩ := hcat T' rfl X'
    exact ⟨t9, hsteps.trans a1, b1⟩
end MC

theorem mk_in5_at {mi pc k : Nat} {i : Instr} (hm : mi < 307) (h5 : mk_kd.getD mi 9 = 5) (h : mp_ins mi pc = some (i, k)) : (∀ idx, i ≠ .invokestatic idx) ∧ ∀ idx, i ≠ .invokespecial idx := by
  have h1 := List.all_eq_true.mp (mk_in5 mi hm h5) _ (mq_fd_mem h)
  refine ⟨fun idx e => ?_, fun idx e => ?_⟩
  · subst e; simp at h1
  · subst e; simp at h1
set_option maxHeartbeats 4000000 in
/-- a frame with a table -/
theorem ms_simH {l : Launch} (hl : l.stackTraces = false) : ∀ (n d mi pc : Nat) (ls : mq_L) (st : List Value) (h : mq_H) (v : Option Value) (h' : mq_H), mq_ex n d mi pc ls st h = some (some v, h') → mi < 307 → mk_kd.getD mi 9 = 5 →
  ∀ (p : Program) (e : Env) (R : Room) (s : State) (m : MethodId) (args : Array Value) (below : List Frame) (meth : Method) (c : Code) (H : Heap) (locs : List Loc) (Q : State → Prop) (lr : Array Slot) (D : va_G) (cA : Nat → ClassId) (B : Nat) (xa : Nat → Nat) (X : Nat → mq_E) (n0 w0 : Nat),
  p.tables.exec = Jvm.exec → c.code = mk_b mi → c.maxLocals = mp_mx mi → s.vm.findClass (mp_cn.getD (mp_of mi).1 "") = some m.cls → (∀ w ∈ mg_tbl, w.before args s = true) → ms_E D cA B xa X s → mt_E B s → c.exceptionTable.toList = tableOf (mk_hh mi) → d ≤ R.frames → 100 * d ≤ R.locals →
  mr_W D cA B xa X s H locs h → mr_L B xa lr (mp_mx mi) ls → n0 ≤ h.1 → w0 ≤ h.2.1 → h'.1 < mr_X → h'.1 - n0 ≤ R.cells → h'.2.1 - w0 ≤ R.slots →
  (∀ (pc' : Nat) (ls' : mq_L) (st' : List Value) (lr' : Array Slot) (H' : Heap) (locs' : List Loc), mq_st mi pc' ls' st' h' = some (.inr (.inr (some v))) → mr_W D cA B xa X s H' locs' h' → W p l e R s m args below meth c H' locs' (h'.1 - n0) (h'.2.1 - w0) Q (F0 m pc' lr' (st'.map (mr_v B xa)))) →
  W p l e R s m args below meth c H locs (h.1 - n0) (h.2.1 - w0) Q (F0 m pc lr (st.map (mr_v B xa)))
  | 0, d, mi, pc, ls, st, h, v, h', he => by simp [mq_ex] at he
  | n + 1, d, mi, pc, ls, st, h, v, h', he => by
    intro hmi hk5 p e R s m args below meth c H locs Q lr D cA B xa X n0 w0 hx hb hml hown hts hE hE2 htb hfr hlo hW hL hn0 hw0 hn hrc hrs hend
    have hmo := ms_mono (n + 1) d mi pc ls st h _ h' he
    have hnm : mp_inT.getD mi false = true → meth.name = "<init>" := fun q => by rw [(mk_law5 mi hmi hk5).2.2.1] at q; cases q
    unfold mq_ex at he
    split at he
    next => rw [mq_ck_no (fun q => by subst q; exact absurd hk5 (by decide +kernel))] at he; cases he
    next pc2 ls2 st2 h2 hs =>
      have hm2 := ms_mono n d mi pc2 ls2 st2 h2 _ h' he
      unfold mq_st at hs
      split at hs
      next i k hi =>
        obtain ⟨hd, hln⟩ := md_at hi
        have hm3 := mv_mono hs
        refine mr_step hx hb hown hts hE.2.1 hE.2.2.1 hE.2.2.2.1 (hE.2.2.2.2.1 mi) ?_ hnm hW (by omega) hL hn0 hw0 hd hln hs (by omega) (by omega) (fun lr' H' locs' hL' hW' => ?_)
        · intro idx v pc H locs cells slots lr rest hv hS9 hd9 kk9
          obtain ⟨rfl, hw⟩ := mk_sg hv
          exact va_gets hx hb hE.2.2.2.2.2.1 hS9 hown (hts _ hw) (fun _ h => h) hd9 kk9
        · exact ms_simH hl n d mi pc2 ls2 st2 h2 v h' he hmi hk5 p e R s m args below meth c H' locs' Q lr' D cA B xa X n0 w0 hx hb hml hown hts hE hE2 htb hfr hlo hW' hL' (by omega) (by omega) hn hrc hrs hend
      next => cases hs
    next mj as rest hs =>
      split at he
      next => cases he
      next d' =>
        split at he
        next hal =>
          unfold mq_st at hs
          split at hs
          next i k hi =>
            obtain ⟨i5, i6⟩ := mk_in5_at hmi hk5 hi
            split at he
            next v1 h1 hq =>
              have a1 := ms_mono n d' mj 0 _ [] h _ h1 hq
              have a2 := ms_mono n (d' + 1) mi (pc + 3) ls _ h1 _ h' he
              refine ms_call (ms_sim n) hx hb hml hown hts hE hfr hlo hW hL hn0 hw0 (by omega) (by omega) (by omega) hi hs (fun idx q => absurd q (i5 idx)) hal hq (fun H' locs' hW' => ?_)
              exact ms_simH hl n (d' + 1) mi (pc + 3) ls (v1.toList ++ rest) h1 v h' he hmi hk5 p e R s m args below meth c H' locs' Q lr D cA B xa X n0 w0 hx hb hml hown hts hE hE2 htb hfr hlo hW' hL (by omega) (by omega) hn hrc hrs hend
            next h1 hq =>
              have a1 := ms_mono n d' mj 0 _ [] h _ h1 hq
              split at he
              next pc2 kk2 hh =>
                split at he
                next hk2 =>
                  have a2 := ms_mono n (d' + 1) mi pc2 _ [] h1 _ h' he
                  refine ms_catch hl hx hb hml hown hts hE hE2 htb hfr hlo hW hL hn0 hw0 (by omega) (by omega) (by omega) hi hs i5 i6 hal hq hh hk2 (fun lr' H' locs' hL' hW' => ?_)
                  exact ms_simH hl n (d' + 1) mi pc2 _ [] h1 v h' he hmi hk5 p e R s m args below meth c H' locs' Q lr' D cA B xa X n0 w0 hx hb hml hown hts hE hE2 htb hfr hlo hW' hL' (by omega) (by omega) hn hrc hrs hend
                next => cases he
              next => cases he
            next => cases he
          next => cases hs
        next => cases he
    next v9 hs =>
      cases he
      exact hend pc ls st lr H locs hs hW
    next hs =>
      split at he
      next => cases he
      next => cases he
def ms_ws5 (mi : Nat) : List Cond := Cond.codeWith (mk_y mi) (mk_b mi) (mp_mx mi) (mp_rt mi) (mk_hh mi) :: mg_tbl
/-- the contract of a method with a table -/
theorem ms_met5 {n d mj : Nat} {as : List Value} {h h1 : mq_H} {v : Option Value} {l : Launch} (hl : l.stackTraces = false) (he : mq_ex n d mj 0 (mq_en as (mp_mx mj)) [] h = some (some v, h1)) (hal : (mq_al as).length ≤ mp_mx mj) (hmj : mj < 307) (hk5 : mk_kd.getD mj 9 = 5) (hn : h1.1 < mr_X)
    (D : va_G) (cA : Nat → ClassId) (B : Nat) (xa : Nat → Nat) (X : Nat → mq_E) :
    Met l (mk_y mj) (ms_ws5 mj) (ms_R d (h1.1 - h.1) (h1.2.1 - h.2.1)) (ms_P2 D cA B xa X as h) (ms_Q D cA B xa X v h1) (h1.1 - h.1) (h1.2.1 - h.2.1) (fun q => B ≤ q) := by
  obtain ⟨hpl, hcls, -, -⟩ := mk_law5 mj hmj hk5
  refine va_MetW (cc := mk_b mj) (maxL := mp_mx mj) (ret := mp_rt mj) (hh := mk_hh mj) hpl rfl ?_
  intro p e s m args below meth c s₁ Bd hml hv
  obtain ⟨⟨rfl, hH, hE⟩, hE2⟩ := hv
  have hts0 := atoms_spec (ws := ms_ws5 mj) Bd.pre
  have hts : ∀ w ∈ mg_tbl, w.before (as.map (mr_v B xa)).toArray s = true := fun w hw => hts0 w (List.mem_cons_of_mem _ hw)
  have hown : s.vm.findClass (mp_cn.getD (mp_of mj).1 "") = some m.cls := by rw [← hcls]; exact findClass_of_methodNamed Bd.named
  have htb := vx_table (x := mk_y mj) Bd (hts0 _ List.mem_cons_self)
  rw [lg_entry_eq]
  have h9 := ms_simH hl n d mj 0 (mq_en as (mp_mx mj)) [] h v h1 he hmj hk5 p e (headSpec (ms_ws5 mj) (ms_R d (h1.1 - h.1) (h1.2.1 - h.2.1))).room s m (as.map (mr_v B xa)).toArray below meth c s.heap [] (MQ below (ms_Q D cA B xa X v h1) (as.map (mr_v B xa)).toArray s (h1.1 - h.1) (h1.2.1 - h.2.1) (fun q => B ≤ q)) _ D cA B xa X h.1 h.2.1 Bd.exec Bd.bytes hml hown hts hE hE2 htb (Nat.le_refl _) (Nat.le_refl _) (hH.W hE.1 va_S.rf) (mr_entry hal) (Nat.le_refl _) (Nat.le_refl _) hn (Nat.le_refl _) (Nat.le_refl _)
    (fun pc' ls' st' lr' H' locs' h0 hW => ms_ret Bd.exec Bd.bytes Bd.returns Bd.notSynchronized h0 hW)
  rw [Nat.sub_self, Nat.sub_self] at h9
  exact h9
