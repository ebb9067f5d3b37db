/-! STEPS THAT READ AND WRITE THE HEAP -/
theorem mr_ci (c : ClassId) (n k : Nat) (f : Nat → Int32) (x : Int32) : (vp_cell c (n, .inl f)).setSlot k (.int x) = vp_cell c (n, .inl (upd f k x)) := by
  rw [vp_cell_i, vp_cell_i, arrV_store]
  congr 1
  funext q
  by_cases hq : q = k <;> simp [updV, upd, hq]
theorem mr_cl (c : ClassId) (n k : Nat) (f : Nat → Int64) (x : Int64) : (vp_cell c (n, .inr (.inl f))).setSlot k (.long x) = vp_cell c (n, .inr (.inl (vp_updL f k x))) := by
  rw [vp_cell_l, vp_cell_l, arrV_store]
  congr 1
  funext q
  by_cases hq : q = k <;> simp [updV, vp_updL, hq]
theorem mr_cq (c : ClassId) (n k : Nat) (f : Nat → Option Nat) (x : Option Nat) : (vp_cell c (n, .inr (.inr (.inr (.inr f))))).setSlot k (va_rf x) = vp_cell c (n, .inr (.inr (.inr (.inr (va_up f k x))))) := by
  rw [vp_cell_q, vp_cell_q, arrV_store]
  congr 1
  funext q
  by_cases hq : q = k <;> simp [updV, va_up, hq]
theorem mr_rf (B : Nat) (xa : Nat → Nat) (o : Option Nat) : mr_v B xa (va_rf o) = va_rf (o.map (mr_a B xa)) := by cases o <;> rfl
section MR
variable {p : Program} {l : Launch} {e : Env} {R : Room} {s : State} {m : MethodId} {args : Array Value} {below : List Frame} {meth : Method} {c : Code} {H : Heap} {locs : List Loc} {cells slots : Nat} {Q : State → Prop} {cc : ByteArray} {pc : Nat} {lr : Array Slot}
variable {D : va_G} {cA : Nat → ClassId} {B : Nat} {xa : Nat → Nat} {X : Nat → mq_E} {h : mq_H} {mi : Nat} {rest : List Value}
theorem mr_getf (hx : p.tables.exec = Jvm.exec) (hb : c.code = cc) (hown : s.vm.findClass (mp_cn.getD (mp_of mi).1 "") = some m.cls) (hts : ∀ w ∈ mg_tbl, w.before args s = true) (hK : va_K D mk_cl (mr_ty cA) s) (hF : mr_Xf B xa X s) (hW : mr_W D cA B xa X s H locs h) (hn : h.1 < mr_X)
    {idx ci k a : Nat} {fs : List Value} {v : Value} (hl : mp_fl mi idx = some (ci, k)) (ho : h.2.2 a = .inr (ci, fs)) (hv : fs[k]? = some v) (hdg : decode cc pc = .ok (.getfield idx, 3))
    (kk : W p l e R s m args below meth c H locs cells slots Q (F0 m (pc + 3) lr (mr_v B xa v :: rest))) : W p l e R s m args below meth c H locs cells slots Q (F0 m pc lr (.ref (mr_a B xa a) :: rest)) := by
  obtain ⟨f1, f2⟩ := mk_fl hl
  rcases hW.obj hn ho with ⟨g1, g2, g3, g4, g5⟩ | ⟨j, g1, g2⟩
  · rw [g2]
    have hk : k < mk_N ci := by
      rcases f2 with q | q
      · omega
      · exact q.2
    have e1 : mk_fln ci k = ((mk_T ci k).1, (mk_T ci k).2.1, (mk_T ci k).2.2.1) := if_neg (by omega)
    rw [e1] at f1
    refine va_get (own := mp_cn.getD (mp_of mi).1 "") (ref := (mk_T ci k).1) (C := mk_nm.getD ci "") (T := mk_T ci) (N := mk_N ci) (ci := ci) (index := idx) (ws := [(B + a, .inr (ci, fs.map (mr_v B xa)))]) hx hb hts (mk_uws g3) hown hK ?_ 0 rfl (mk_cl_at ci g3) k hk (hts _ f1) (fun x h => h) (v := mr_v B xa v) ?_ hdg kk
    · intro k9 q9 h9
      have hz : k9 < 1 := (List.getElem?_eq_some_iff.mp h9).1
      rw [show k9 = 0 by omega] at h9
      cases h9
      exact ⟨_, mk_cl_at ci g3, g5⟩
    · rw [List.getElem?_map, hv]; rfl
  · have h9 := hF j
    rw [g2] at h9
    obtain ⟨h8, rfl, v0, rfl, h5, h6, h7⟩ := h9
    rw [g1, mr_a_hi]
    have hk : k < 2 := by
      rcases f2 with q | q
      · exact q.2
      · omega
    rcases (show k = 0 ∨ k = 1 by omega) with rfl | rfl
    · cases hv
      exact vk_getf hx hb h7 hW.2.2.2.2.2 hown (hts _ f1) (fun _ h => h) hdg kk
    · cases hv
      exact vk_getf hx hb h6 hW.2.2.2.2.2 hown (hts _ f1) (fun _ h => h) hdg kk
theorem mr_putf (hx : p.tables.exec = Jvm.exec) (hb : c.code = cc) (hown : s.vm.findClass (mp_cn.getD (mp_of mi).1 "") = some m.cls) (hts : ∀ w ∈ mg_tbl, w.before args s = true) (hK : va_K D mk_cl (mr_ty cA) s) (hF : mr_Xf B xa X s) (hW : mr_W D cA B xa X s H locs h) (hn : h.1 < mr_X) (hin : mp_inT.getD mi false = true → meth.name = "<init>")
    (hck : mp_inT.getD mi false = true → ∀ ci, mp_ck mi = ci → ci < 11 → mp_cn.getD (mp_of mi).1 "" = mk_nm.getD ci "")
    {idx ci k a : Nat} {fs : List Value} {v : Value} (hl : mp_fl mi idx = some (ci, k)) (ho : h.2.2 a = .inr (ci, fs)) (hk : k < fs.length) (hpf : mp_pf mi idx = true) (hok : mq_okv (mp_ft ci k) v = true) (hdg : decode cc pc = .ok (.putfield idx, 3))
    (hci : ¬ ci = 11)
    (kk : ∀ (H1 : Heap) (locs1 : List Loc), mr_W D cA B xa X s H1 locs1 (mq_wr h a (.inr (ci, fs.set k v))) → W p l e R s m args below meth c H1 locs1 cells slots Q (F0 m (pc + 3) lr rest)) : W p l e R s m args below meth c H locs cells slots Q (F0 m pc lr (mr_v B xa v :: .ref (mr_a B xa a) :: rest)) := by
  obtain ⟨f1, f2⟩ := mk_fl hl
  rcases hW.obj hn ho with ⟨g1, g2, g3, g4, g5⟩ | ⟨j, g1, g2⟩
  · rw [g2]
    have hkN : k < mk_N ci := by omega
    have e1 : mk_fln ci k = ((mk_T ci k).1, (mk_T ci k).2.1, (mk_T ci k).2.2.1) := if_neg (by omega)
    rw [e1] at f1
    obtain ⟨c1, c2, c3, c4⟩ := mk_c g3
    obtain ⟨d1, d2, d3, d4, d5, d6⟩ := c4 k hkN
    have hap := va_apart (own := mp_cn.getD (mp_of mi).1 "") (ty := mp_ft ci) hts (mk_uws g3) (fun k hk => (c4 k hk).2.1) (fun x hx y hy hxy => (c4 x hx).2.2.2.2.2 y hy (Ne.symm hxy)) hK (mk_cl_at ci g3)
    obtain ⟨cell, q1, q2, q3, q4⟩ := g5
    obtain ⟨hS, hfc, kC, hkC, hkind⟩ := hK.1 ci _ (mk_cl_at ci g3)
    obtain ⟨cf, kf, fi, f, hi, hsl⟩ := hS k hkN
    obtain ⟨o1, o2⟩ := mr_okv (B := B) (xa := xa) hok
    have hst := (u_facts hfc hkC (u_lays hts (mk_uws g3) hkN) hi).1
    have hend : ∀ H' : Heap, H'[B + a]? = some (cell.setSlot (D.2 ci k) (mr_v B xa v)) → H'.size = H.size → (∀ q, q ≠ B + a → H'[q]? = H[q]?) → mr_W D cA B xa X s H' (locs ++ [⟨B + a, D.2 ci k⟩]) (mq_wr h a (.inr (ci, fs.set k v))) := by
      intro H' e1 e2 e3
      refine hW.put hn g1 e2 e3 ⟨g3, by rw [List.length_set]; exact g4, ?_⟩
      rw [List.map_set]
      exact t_OB.to (V := updV (vp_V (fs.map (mr_v B xa))) k (mr_v B xa v)) ⟨_, e1, q2, q3, t_set q4 hap hkN (mr_v B xa v)⟩ (fun j _ => vp_updV_set (by rw [List.length_map]; exact hk) (mr_v B xa v) j)
    unfold mp_pf at hpf
    rw [hl] at hpf
    simp only [Bool.or_eq_true, Bool.not_eq_true', Bool.and_eq_true, decide_eq_true_eq] at hpf
    rw [← d5] at hpf
    unfold u_lay at d1
    rcases Bool.eq_false_or_eq_true (mk_T ci k).2.2.2 with hfin | hfin
    · rw [if_pos hfin] at d1
      have hpf2 := hpf.resolve_left (by rw [hfin]; decide)
      have hdecl : (mk_T ci k).1 = mp_cn.getD (mp_of mi).1 "" := by rw [d3]; exact (hck hpf2.1 ci hpf2.2 g3).symm
      have hcf : m.cls = cf := by
        obtain ⟨_, _, c', _, _, _, -, -, hf', -, -, -, hown2, -⟩ := Cond.laysFinal_spec (hts _ d1)
        have e1 : c' = cf := by have := hi.symm.trans hf'; simp at this; exact this.1.symm
        rw [hdecl] at hown2
        rw [← e1]; exact Option.some.inj (hown.symm.trans hown2)
      have h6 := u_fits hfc hkC hkind (Or.inr (hts _ d1)) hi d2 o1 o2
      refine W.putFinK hx hb hown (hts _ f1) hi hst hcf (hin hpf2.1) (by rw [q2]; exact h6) q1 q3 (by rw [hsl]; exact k2_hasslot (q4 k hkN)) rfl rfl hdg fun H' e1 e2 e3 => ?_
      rw [hsl] at e1 ⊢
      exact kk H' _ (hend H' e1 e2 e3)
    · rw [if_neg (by rw [hfin]; decide)] at d1
      have h6 := u_store hfc hkC hkind (hts _ d1) hi d2 o1 o2
      refine W.putK hx hb (f := f) ⟨hown, hts _ f1, ⟨_, _, _, hi⟩, hst⟩ (by rw [q2]; exact h6) q1 q3 (by rw [hsl]; exact k2_hasslot (q4 k hkN)) rfl rfl hdg fun H' e1 e2 e3 => ?_
      rw [hsl] at e1 ⊢
      exact kk H' _ (hend H' e1 e2 e3)
  · have h9 := hF j
    rw [g2] at h9
    exact absurd h9.2.1 hci
/-- one cell as a world of its own -/
theorem mr_one {a : Nat} {x : va_E} (hx : va_at D mk_cl (a, x) H) : va_P D mk_cl [(a, x)] H := by
  intro k9 q9 h9
  have hz : k9 < 1 := (List.getElem?_eq_some_iff.mp h9).1
  rw [show k9 = 0 by omega] at h9
  cases h9
  exact hx
theorem mr_iald (hx : p.tables.exec = Jvm.exec) (hb : c.code = cc) (hK : va_K D mk_cl (mr_ty cA) s) (hF : mr_Xf B xa X s) (hW : mr_W D cA B xa X s H locs h) (hn : h.1 < mr_X)
    {st t : List Value} {x : Int32} (hr : mq_ari st h.2.2 0 5 = some (x, t)) (hdg : decode cc pc = .ok (.iaload, 1))
    (kk : W p l e R s m args below meth c H locs cells slots Q (F0 m (pc + 1) lr (.int x :: t.map (mr_v B xa)))) : W p l e R s m args below meth c H locs cells slots Q (F0 m pc lr (st.map (mr_v B xa))) := by
  unfold mq_ari at hr
  split at hr
  next i a t' =>
    split at hr
    next k n g hg =>
      split at hr
      next hc =>
        cases hr
        have hi := mr_in hc.2
        rcases hW.arr hn hg (by omega) with ⟨g1, g2, g3, g4⟩ | ⟨j, g1, g2⟩
        · have hk0 : k = 0 := by omega
          subst hk0
          show W p l e R s m args below meth c H locs cells slots Q (F0 m pc lr (.int i :: .ref (mr_a B xa a) :: _))
          rw [g2]
          exact va_iald (ws := [(B + a, .inl (cA 0, n, .inl g))]) hx hb hK (mr_one g4) 0 0 rfl rfl hi hdg kk
        · have h9 := hF j
          rw [g2] at h9
          show W p l e R s m args below meth c H locs cells slots Q (F0 m pc lr (.int i :: .ref (mr_a B xa a) :: _))
          rw [g1, mr_a_hi]
          obtain ⟨h8, h9⟩ := h9
          rcases h9 with h9 | ⟨h9, h7⟩ | ⟨h9, h7⟩
          · omega
          · exact va_sld hx hb h7 (Nat.lt_of_lt_of_le h8 hW.2.1) (fun q => by have : B ≤ xa j := q; omega) hW.2.2.2.2.2 hi hdg kk
          · omega
      next => cases hr
    next => cases hr
  next => cases hr
theorem mr_bald (hx : p.tables.exec = Jvm.exec) (hb : c.code = cc) (hK : va_K D mk_cl (mr_ty cA) s) (hF : mr_Xf B xa X s) (hW : mr_W D cA B xa X s H locs h) (hn : h.1 < mr_X)
    {st t : List Value} {x : Int32} (hr : mq_ari st h.2.2 1 6 = some (x, t)) (hdg : decode cc pc = .ok (.baload, 1))
    (kk : W p l e R s m args below meth c H locs cells slots Q (F0 m (pc + 1) lr (.int x :: t.map (mr_v B xa)))) : W p l e R s m args below meth c H locs cells slots Q (F0 m pc lr (st.map (mr_v B xa))) := by
  unfold mq_ari at hr
  split at hr
  next i a t' =>
    split at hr
    next k n g hg =>
      split at hr
      next hc =>
        cases hr
        have hi := mr_in hc.2
        rcases hW.arr hn hg (by omega) with ⟨g1, g2, g3, g4⟩ | ⟨j, g1, g2⟩
        · have hk0 : k = 1 := by omega
          subst hk0
          show W p l e R s m args below meth c H locs cells slots Q (F0 m pc lr (.int i :: .ref (mr_a B xa a) :: _))
          rw [g2]
          exact va_zald (ws := [(B + a, .inl (cA 1, n, .inl g))]) hx hb hK (mr_one g4) 0 1 rfl rfl hi hdg kk
        · have h9 := hF j
          rw [g2] at h9
          show W p l e R s m args below meth c H locs cells slots Q (F0 m pc lr (.int i :: .ref (mr_a B xa a) :: _))
          rw [g1, mr_a_hi]
          obtain ⟨h8, h9⟩ := h9
          rcases h9 with h9 | ⟨h9, h7⟩ | ⟨h9, h7⟩
          · omega
          · omega
          · obtain ⟨cell, y1, y2, y3, y4, y5, y6, y7⟩ := h7
            have hlt : i.toNatClampNeg < n := Nat.not_le.mp fun q => hi (Or.inr q)
            exact W.bald (v := .int (g i.toNatClampNeg)) hx hb (by rw [hW.old h8]; exact y1) y2 y3 (fun q => q.elim (fun q => hi (Or.inl q)) (fun q => by omega)) (y6 _ hlt) rfl rfl hdg kk
      next => cases hr
    next => cases hr
  next => cases hr
theorem mr_cald (hx : p.tables.exec = Jvm.exec) (hb : c.code = cc) (hK : va_K D mk_cl (mr_ty cA) s) (hF : mr_Xf B xa X s) (hW : mr_W D cA B xa X s H locs h) (hn : h.1 < mr_X)
    {st t : List Value} {x : Int32} (hr : mq_ari st h.2.2 2 2 = some (x, t)) (hdg : decode cc pc = .ok (.caload, 1))
    (kk : W p l e R s m args below meth c H locs cells slots Q (F0 m (pc + 1) lr (.int x :: t.map (mr_v B xa)))) : W p l e R s m args below meth c H locs cells slots Q (F0 m pc lr (st.map (mr_v B xa))) := by
  unfold mq_ari at hr
  split at hr
  next i a t' =>
    split at hr
    next k n g hg =>
      split at hr
      next hc =>
        cases hr
        have hi := mr_in hc.2
        have hk0 : k = 2 := by omega
        subst hk0
        rcases hW.arr hn hg (by omega) with ⟨g1, g2, g3, g4⟩ | ⟨j, g1, g2⟩
        · show W p l e R s m args below meth c H locs cells slots Q (F0 m pc lr (.int i :: .ref (mr_a B xa a) :: _))
          rw [g2]
          exact va_cald (ws := [(B + a, .inl (cA 2, n, .inl g))]) hx hb hK (mr_one g4) 0 2 rfl rfl hi hdg kk
        · have h9 := (hF j).2
          rw [g2] at h9
          rcases h9 with h9 | ⟨h9, h7⟩ | ⟨h9, h7⟩ <;> omega
      next => cases hr
    next => cases hr
  next => cases hr
theorem mr_lald (hx : p.tables.exec = Jvm.exec) (hb : c.code = cc) (hK : va_K D mk_cl (mr_ty cA) s) (hF : mr_Xf B xa X s) (hW : mr_W D cA B xa X s H locs h) (hn : h.1 < mr_X)
    {a n : Nat} {i : Int32} {g : Nat → Int64} (hg : h.2.2 a = .inl (3, n, .inr (.inl g))) (hi : mq_in i n = true) (hdg : decode cc pc = .ok (.laload, 1))
    (kk : W p l e R s m args below meth c H locs cells slots Q (F0 m (pc + 1) lr (.long (g i.toNatClampNeg) :: rest))) : W p l e R s m args below meth c H locs cells slots Q (F0 m pc lr (.int i :: .ref (mr_a B xa a) :: rest)) := by
  rcases hW.arr hn hg (by omega) with ⟨g1, g2, g3, g4⟩ | ⟨j, g1, g2⟩
  · rw [g2]
    exact va_lald (ws := [(B + a, .inl (cA 3, n, .inr (.inl g)))]) hx hb hK (mr_one g4) 0 3 rfl rfl (mr_in hi) hdg kk
  · have h9 := (hF j).2
    rw [g2] at h9
    exact h9.elim
theorem mr_aald (hx : p.tables.exec = Jvm.exec) (hb : c.code = cc) (hK : va_K D mk_cl (mr_ty cA) s) (hF : mr_Xf B xa X s) (hW : mr_W D cA B xa X s H locs h) (hn : h.1 < mr_X)
    {a n : Nat} {i : Int32} {g : Nat → Option Nat} (hg : h.2.2 a = .inl (4, n, .inr (.inr (.inr (.inr g))))) (hi : mq_in i n = true) (hdg : decode cc pc = .ok (.aaload, 1))
    (kk : W p l e R s m args below meth c H locs cells slots Q (F0 m (pc + 1) lr (mr_v B xa (va_rf (g i.toNatClampNeg)) :: rest))) : W p l e R s m args below meth c H locs cells slots Q (F0 m pc lr (.int i :: .ref (mr_a B xa a) :: rest)) := by
  rcases hW.arr hn hg (by omega) with ⟨g1, g2, g3, g4⟩ | ⟨j, g1, g2⟩
  · rw [g2]
    rw [mr_rf] at kk
    exact va_aldq (ws := [(B + a, .inl (cA 4, n, .inr (.inr (.inr (.inr (fun j => (g j).map (mr_a B xa)))))))]) hx hb hK (mr_one g4) 0 4 rfl rfl (mr_in hi) hdg kk
  · have h9 := (hF j).2
    rw [g2] at h9
    exact h9.elim
theorem mr_alen (hx : p.tables.exec = Jvm.exec) (hb : c.code = cc) (hK : va_K D mk_cl (mr_ty cA) s) (hF : mr_Xf B xa X s) (hW : mr_W D cA B xa X s H locs h) (hn : h.1 < mr_X)
    {a k n : Nat} {y : (Nat → Int32) ⊕ (Nat → Int64) ⊕ (Nat → UInt32) ⊕ (Nat → UInt64) ⊕ (Nat → Option Nat)} (hg : h.2.2 a = .inl (k, n, y)) (hk : k < 7) (hdg : decode cc pc = .ok (.arraylength, 1))
    (kk : W p l e R s m args below meth c H locs cells slots Q (F0 m (pc + 1) lr (.int (Int32.ofNat n) :: rest))) : W p l e R s m args below meth c H locs cells slots Q (F0 m pc lr (.ref (mr_a B xa a) :: rest)) := by
  rcases hW.arr hn hg (by omega) with ⟨g1, g2, g3, g4⟩ | ⟨j, g1, g2⟩
  · rw [g2]
    have hty : ∃ (t0 : Nat) (ty : FieldType), (mr_ty cA)[t0]? = some (cA k, ty) := by
      rcases (show k = 0 ∨ k = 1 ∨ k = 2 ∨ k = 3 ∨ k = 4 by omega) with rfl | rfl | rfl | rfl | rfl
      · exact ⟨0, _, rfl⟩
      · exact ⟨1, _, rfl⟩
      · exact ⟨2, _, rfl⟩
      · exact ⟨3, _, rfl⟩
      · exact ⟨4, _, rfl⟩
    obtain ⟨t0, ty, hty⟩ := hty
    exact va_alen (ws := [(B + a, .inl (cA k, mr_arr B xa (n, y)))]) hx hb hK (mr_one g4) 0 t0 rfl hty (v := Int32.ofNat n) rfl hdg kk
  · have h9 := hF j
    rw [g2] at h9
    rw [g1, mr_a_hi]
    obtain ⟨h8, h9⟩ := h9
    cases y with
    | inl g =>
      rcases h9 with h9 | ⟨h9, h7⟩ | ⟨h9, h7⟩
      · omega
      · exact va_slen hx hb h7 (Nat.lt_of_lt_of_le h8 hW.2.1) (fun q => by have : B ≤ xa j := q; omega) hW.2.2.2.2.2 hdg kk
      · obtain ⟨cell, y1, y2, y3, y4, y5, y6, y7⟩ := h7
        exact W.alen (n := Int32.ofNat n) hx hb (by rw [hW.old h8]; exact y1) y2 y5 rfl rfl hdg kk
    | inr g => exact h9.elim
end MR
