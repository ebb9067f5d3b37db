/-! STORES INTO ARRAYS; NEW CELLS -/
section MR2
variable {p : Program} {l : Launch} {e : Env} {R : Room} {s : State} {m : MethodId} {args : Array Value} {below : List Frame} {meth : Method} {c : Code} {H : Heap} {locs : List Loc} {cells slots : Nat} {Q : State → Prop} {cc : ByteArray} {pc : Nat} {lr : Array Slot}
variable {D : va_G} {cA : Nat → ClassId} {B : Nat} {xa : Nat → Nat} {X : Nat → mq_E} {h : mq_H} {mi : Nat} {rest : List Value}
/-- an array of the model that isn't there before -/
theorem mr_W.own (hF : mr_Xf B xa X s) (hW : mr_W D cA B xa X s H locs h) (hn : h.1 < mr_X) {a k : Nat} {v : vp_A} (hg : h.2.2 a = .inl (k, v)) (hk : k < 5) : a < h.1 ∧ mr_a B xa a = B + a ∧ H[B + a]? = some (vp_cell (cA k) (mr_arr B xa v)) := by
  rcases hW.arr hn hg (by omega) with ⟨g1, g2, g3, g4⟩ | ⟨j, g1, g2⟩
  · exact ⟨g1, g2, g4⟩
  · exfalso
    have h9 := (hF j).2
    rw [g2] at h9
    obtain ⟨n, y⟩ := v
    cases y with
    | inl g => rcases h9 with h9 | ⟨h9, h7⟩ | ⟨h9, h7⟩ <;> omega
    | inr g => exact h9
theorem mr_iast (hx : p.tables.exec = Jvm.exec) (hb : c.code = cc) (hK : va_K D mk_cl (mr_ty cA) s) (hF : mr_Xf B xa X s) (hW : mr_W D cA B xa X s H locs h) (hn : h.1 < mr_X)
    {st t : List Value} {h1 : mq_H} (hr : mq_awi st h 0 (fun x => x) = some (h1, t)) (hdg : decode cc pc = .ok (.iastore, 1))
    (kk : ∀ (H1 : Heap) (locs1 : List Loc), mr_W D cA B xa X s H1 locs1 h1 → W p l e R s m args below meth c H1 locs1 cells slots Q (F0 m (pc + 1) lr (t.map (mr_v B xa)))) : W p l e R s m args below meth c H locs cells slots Q (F0 m pc lr (st.map (mr_v B xa))) := by
  unfold mq_awi at hr
  split at hr
  next x i a t' =>
    split at hr
    next k n g hg =>
      split at hr
      next hc =>
        cases hr
        obtain ⟨rfl, hc2⟩ := hc
        have hi := mr_in hc2
        obtain ⟨g1, g2, g4⟩ := mr_W.own hF hW hn hg (by omega)
        show W p l e R s m args below meth c H locs cells slots Q (F0 m pc lr (.int x :: .int i :: .ref (mr_a B xa a) :: _))
        rw [g2]
        refine W.iast hx hb g4 ((hK.2 0 _ rfl).1 n (fun j => .int (g j))) (fun q => by cases q) (by show ¬ (i < 0 ∨ (arrV _ _ _).slots.size ≤ _); rw [arrV_size]; exact hi) rfl rfl hdg fun H1 e1 z oq => ?_
        exact kk H1 _ (hW.put hn g1 z oq (Or.inr ⟨by omega, by rw [e1]; exact congrArg some (mr_ci _ _ _ _ _)⟩))
      next => cases hr
    next => cases hr
  next => cases hr
theorem mr_zast (hx : p.tables.exec = Jvm.exec) (hb : c.code = cc) (hK : va_K D mk_cl (mr_ty cA) s) (hF : mr_Xf B xa X s) (hW : mr_W D cA B xa X s H locs h) (hn : h.1 < mr_X)
    {st t : List Value} {h1 : mq_H} (hr : mq_awi st h 1 (fun x => x &&& 1) = some (h1, t)) (hdg : decode cc pc = .ok (.bastore, 1))
    (kk : ∀ (H1 : Heap) (locs1 : List Loc), mr_W D cA B xa X s H1 locs1 h1 → W p l e R s m args below meth c H1 locs1 cells slots Q (F0 m (pc + 1) lr (t.map (mr_v B xa)))) : W p l e R s m args below meth c H locs cells slots Q (F0 m pc lr (st.map (mr_v B xa))) := by
  unfold mq_awi at hr
  split at hr
  next x i a t' =>
    split at hr
    next k n g hg =>
      split at hr
      next hc =>
        cases hr
        obtain ⟨rfl, hc2⟩ := hc
        have hi := mr_in hc2
        obtain ⟨g1, g2, g4⟩ := mr_W.own hF hW hn hg (by omega)
        show W p l e R s m args below meth c H locs cells slots Q (F0 m pc lr (.int x :: .int i :: .ref (mr_a B xa a) :: _))
        rw [g2]
        refine W.zast hx hb g4 ((hK.2 1 _ rfl).1 n (fun j => .int (g j))) (fun q => by cases q) (by show ¬ (i < 0 ∨ (arrV _ _ _).slots.size ≤ _); rw [arrV_size]; exact hi) rfl rfl hdg fun H1 e1 z oq => ?_
        exact kk H1 _ (hW.put hn g1 z oq (Or.inr ⟨by omega, by rw [e1]; exact congrArg some (mr_ci _ _ _ _ _)⟩))
      next => cases hr
    next => cases hr
  next => cases hr
theorem mr_cast (hx : p.tables.exec = Jvm.exec) (hb : c.code = cc) (hK : va_K D mk_cl (mr_ty cA) s) (hF : mr_Xf B xa X s) (hW : mr_W D cA B xa X s H locs h) (hn : h.1 < mr_X)
    {st t : List Value} {h1 : mq_H} (hr : mq_awi st h 2 (fun x => x.toUInt32.toUInt16.toUInt32.toInt32) = some (h1, t)) (hdg : decode cc pc = .ok (.castore, 1))
    (kk : ∀ (H1 : Heap) (locs1 : List Loc), mr_W D cA B xa X s H1 locs1 h1 → W p l e R s m args below meth c H1 locs1 cells slots Q (F0 m (pc + 1) lr (t.map (mr_v B xa)))) : W p l e R s m args below meth c H locs cells slots Q (F0 m pc lr (st.map (mr_v B xa))) := by
  unfold mq_awi at hr
  split at hr
  next x i a t' =>
    split at hr
    next k n g hg =>
      split at hr
      next hc =>
        cases hr
        obtain ⟨rfl, hc2⟩ := hc
        have hi := mr_in hc2
        obtain ⟨g1, g2, g4⟩ := mr_W.own hF hW hn hg (by omega)
        show W p l e R s m args below meth c H locs cells slots Q (F0 m pc lr (.int x :: .int i :: .ref (mr_a B xa a) :: _))
        rw [g2]
        refine W.cast hx hb g4 ((hK.2 2 _ rfl).1 n (fun j => .int (g j))) (fun q => by cases q) (by show ¬ (i < 0 ∨ (arrV _ _ _).slots.size ≤ _); rw [arrV_size]; exact hi) rfl rfl hdg fun H1 e1 z oq => ?_
        exact kk H1 _ (hW.put hn g1 z oq (Or.inr ⟨by omega, by rw [e1]; exact congrArg some (mr_ci _ _ _ _ _)⟩))
      next => cases hr
    next => cases hr
  next => cases hr
theorem mr_last (hx : p.tables.exec = Jvm.exec) (hb : c.code = cc) (hK : va_K D mk_cl (mr_ty cA) s) (hF : mr_Xf B xa X s) (hW : mr_W D cA B xa X s H locs h) (hn : h.1 < mr_X)
    {a n : Nat} {i : Int32} {x : Int64} {g : Nat → Int64} (hg : h.2.2 a = .inl (3, n, .inr (.inl g))) (hc2 : mq_in i n = true) (hdg : decode cc pc = .ok (.lastore, 1))
    (kk : ∀ (H1 : Heap) (locs1 : List Loc), mr_W D cA B xa X s H1 locs1 (mq_wr h a (.inl (3, n, .inr (.inl (vp_updL g i.toNatClampNeg x))))) → W p l e R s m args below meth c H1 locs1 cells slots Q (F0 m (pc + 1) lr rest)) : W p l e R s m args below meth c H locs cells slots Q (F0 m pc lr (.long x :: .int i :: .ref (mr_a B xa a) :: rest)) := by
  have hi := mr_in hc2
  obtain ⟨g1, g2, g4⟩ := mr_W.own hF hW hn hg (by omega)
  rw [g2]
  refine W.last hx hb g4 ((hK.2 3 _ rfl).1 n (fun j => .long (g j))) (fun q => by cases q) (by show ¬ (i < 0 ∨ (arrV _ _ _).slots.size ≤ _); rw [arrV_size]; exact hi) rfl rfl hdg fun H1 e1 z oq => ?_
  exact kk H1 _ (hW.put hn g1 z oq (Or.inr ⟨by omega, by rw [e1]; exact congrArg some (mr_cl _ _ _ _ _)⟩))
theorem mr_up (B : Nat) (xa : Nat → Nat) (g : Nat → Option Nat) (k : Nat) (o : Option Nat) : va_up (fun j => (g j).map (mr_a B xa)) k (o.map (mr_a B xa)) = fun j => (va_up g k o j).map (mr_a B xa) := by
  funext j
  unfold va_up
  by_cases e : j = k <;> simp [e]
theorem mr_astN (hx : p.tables.exec = Jvm.exec) (hb : c.code = cc) (hK : va_K D mk_cl (mr_ty cA) s) (hF : mr_Xf B xa X s) (hW : mr_W D cA B xa X s H locs h) (hn : h.1 < mr_X)
    {a n : Nat} {i : Int32} {g : Nat → Option Nat} (hg : h.2.2 a = .inl (4, n, .inr (.inr (.inr (.inr g))))) (hc2 : mq_in i n = true) (hdg : decode cc pc = .ok (.aastore, 1))
    (kk : ∀ (H1 : Heap) (locs1 : List Loc), mr_W D cA B xa X s H1 locs1 (mq_wr h a (.inl (4, n, .inr (.inr (.inr (.inr (va_up g i.toNatClampNeg none))))))) → W p l e R s m args below meth c H1 locs1 cells slots Q (F0 m (pc + 1) lr rest)) : W p l e R s m args below meth c H locs cells slots Q (F0 m pc lr (.null :: .int i :: .ref (mr_a B xa a) :: rest)) := by
  have hi := mr_in hc2
  obtain ⟨g1, g2, g4⟩ := mr_W.own hF hW hn hg (by omega)
  rw [g2]
  refine va_WaastN (C := "ShareTable$Table") hx hb g4 ((hK.2 4 _ rfl).1 n (fun j => va_rf ((g j).map (mr_a B xa)))) (fun h => by cases h) (by show ¬ (i < 0 ∨ (arrV _ _ _).slots.size ≤ _); rw [arrV_size]; exact hi) rfl rfl hdg fun H1 e1 z oq => ?_
  refine kk H1 _ (hW.put hn g1 z oq (Or.inr ⟨by omega, ?_⟩))
  rw [e1]
  have h5 := mr_cq (cA 4) n i.toNatClampNeg (fun j => (g j).map (mr_a B xa)) none
  have h6 := mr_up B xa g i.toNatClampNeg none
  simp only [Option.map_none] at h6
  rw [h6] at h5
  exact congrArg some h5
theorem mr_ast (hx : p.tables.exec = Jvm.exec) (hb : c.code = cc) (hK : va_K D mk_cl (mr_ty cA) s) (hF : mr_Xf B xa X s) (hW : mr_W D cA B xa X s H locs h) (hn : h.1 < mr_X)
    {a n v : Nat} {i : Int32} {g : Nat → Option Nat} {fs : List Value} (hg : h.2.2 a = .inl (4, n, .inr (.inr (.inr (.inr g))))) (hv : h.2.2 v = .inr (mp_kt, fs)) (hc2 : mq_in i n = true) (hdg : decode cc pc = .ok (.aastore, 1))
    (kk : ∀ (H1 : Heap) (locs1 : List Loc), mr_W D cA B xa X s H1 locs1 (mq_wr h a (.inl (4, n, .inr (.inr (.inr (.inr (va_up g i.toNatClampNeg (some v)))))))) → W p l e R s m args below meth c H1 locs1 cells slots Q (F0 m (pc + 1) lr rest)) : W p l e R s m args below meth c H locs cells slots Q (F0 m pc lr (.ref (mr_a B xa v) :: .int i :: .ref (mr_a B xa a) :: rest)) := by
  have hi := mr_in hc2
  obtain ⟨g1, g2, g4⟩ := mr_W.own hF hW hn hg (by omega)
  have hlt : i.toNatClampNeg < n := Nat.not_le.mp fun q => hi (Or.inr q)
  have h0 : ¬ i < 0 := fun q => hi (Or.inl q)
  rcases hW.obj hn hv with ⟨y1, y2, y3, y4, cellV, q1, q2, q3, -⟩ | ⟨j, y1, y2⟩
  · rw [g2, y2]
    have hcls := (hK.1 mp_kt _ (mk_cl_at mp_kt (by decide))).2
    obtain ⟨kA, comp, k1, k2, k3, -⟩ := (hK.2 4 _ rfl).2
    have hcomp : comp = D.1 mp_kt := Option.some.inj (k3.symm.trans hcls.1)
    subst hcomp
    obtain ⟨kC, hkC, -⟩ := id hcls.2
    refine W.aast hx hb g4 (fun q h => by cases h) (fun h => by cases h) k1 k2 rfl hkC ⟨h0, by show _ < (arrV _ _ _).slots.size; rw [arrV_size]; exact hlt⟩ q1 (fun q h => by rw [q3] at h; cases h) (by rw [q2]; exact hkC) (by rw [q2]; exact va_assign hcls) rfl rfl hdg fun H1 e1 z oq => ?_
    refine kk H1 _ (hW.put hn g1 z oq (Or.inr ⟨by omega, ?_⟩))
    rw [e1]
    have h5 := mr_cq (cA 4) n i.toNatClampNeg (fun j => (g j).map (mr_a B xa)) (some (B + v))
    have h6 := mr_up B xa g i.toNatClampNeg (some v)
    simp only [Option.map_some, y2] at h6
    rw [h6] at h5
    exact congrArg some h5
  · have h9 := (hF j).2
    rw [y2] at h9
    exact absurd h9.1 (by decide)
theorem mr_new (hx : p.tables.exec = Jvm.exec) (hb : c.code = cc) (hown : s.vm.findClass (mp_cn.getD (mp_of mi).1 "") = some m.cls) (hts : ∀ w ∈ mg_tbl, w.before args s = true) (hK : va_K D mk_cl (mr_ty cA) s) (hW : mr_W D cA B xa X s H locs h) (hn : h.1 < mr_X)
    {idx ci w : Nat} (hl : mp_nw mi idx = some (ci, w)) (hci : ¬ ci = 50) (hcells : cells + 1 ≤ R.cells) (hslots : slots + w ≤ R.slots) (hdg : decode cc pc = .ok (.new idx, 3))
    (kk : ∀ H1 : Heap, mr_W D cA B xa X s H1 locs (mq_mk h w (.inr (ci, mp_df ci))) → W p l e R s m args below meth c H1 locs (cells + 1) (slots + w) Q (F0 m (pc + 3) lr (.ref (mr_a B xa h.1) :: rest))) : W p l e R s m args below meth c H locs cells slots Q (F0 m pc lr rest) := by
  obtain ⟨f1, f2⟩ := mk_nw hl
  obtain ⟨g3, rfl⟩ := f2.resolve_left hci
  rw [if_neg hci] at f1
  obtain ⟨c1, c2, c3, c4⟩ := mk_c g3
  have hKn := hK.1 ci _ (mk_cl_at ci g3)
  have hsz : H.size = B + h.1 := hW.1
  refine W.newcK hx hb hown (hts _ f1) (hts _ c1) (hts _ c2) rfl hdg hcells hslots hKn.2.1 hsz fun H1 kC hkC e1 z1 o1 => ?_
  have h9 := kk H1 (hW.mk hn (by rw [z1, hsz]) (fun q hq => o1 q (by omega)) ⟨g3, c3, ?_⟩)
  · rw [mr_a_lo hn] at h9
    exact h9
  · refine (u_born (mp_ft ci) hts (mk_uws g3) hKn hkC e1 (fun k hk => (c4 k hk).2.1)).to (fun k hk => ?_)
    rw [(c4 k hk).2.2.2.1]
    unfold vp_V
    have hl2 : k < (mp_df ci).length := by rw [c3]; exact hk
    rw [List.getD_eq_getElem?_getD, List.getD_eq_getElem?_getD, List.getElem?_map, List.getElem?_eq_getElem hl2]
    have h10 := (c4 k hk).2.2.2.1
    rw [List.getD_eq_getElem?_getD, List.getElem?_eq_getElem hl2] at h10
    simp only [Option.getD_some, Option.map_some] at h10 ⊢
    rw [← h10]
    cases mp_ft ci k <;> rfl
theorem mr_newa (hx : p.tables.exec = Jvm.exec) (hb : c.code = cc) (hts : ∀ w ∈ mg_tbl, w.before args s = true) (hK : va_K D mk_cl (mr_ty cA) s) (hW : mr_W D cA B xa X s H locs h) (hn : h.1 < mr_X)
    {aty : ArrayType} {k : Nat} {f : Nat → vp_A} {n : Int32} (hk : mq_arn aty = some (k, f)) (h0 : ¬ n < 0) (h1 : n.toNatClampNeg ≤ 65536) (hcells : cells + 1 ≤ R.cells) (hslots : slots + n.toNatClampNeg ≤ R.slots) (hdg : decode cc pc = .ok (.newarray aty, 2))
    (kk : ∀ H1 : Heap, mr_W D cA B xa X s H1 locs (mq_mk h n.toNatClampNeg (.inl (k, f n.toNatClampNeg))) → W p l e R s m args below meth c H1 locs (cells + 1) (slots + n.toNatClampNeg) Q (F0 m (pc + 2) lr (.ref (mr_a B xa h.1) :: rest))) : W p l e R s m args below meth c H locs cells slots Q (F0 m pc lr (.int n :: rest)) := by
  have hsz : H.size = B + h.1 := hW.1
  rw [mr_a_lo hn] at kk
  have main : ∀ (ty : FieldType) (t0 : Nat), newarray.typeOf aty = ty → (mr_ty cA)[t0]? = some (cA k, ty) → (∀ C, ty ≠ .object C) → Cond.arrayClass ty ∈ mg_tbl → k < 5 → componentBytes ty ≤ 8 → (∀ c0 : ClassId, arrV c0 n.toNatClampNeg (fun _ => defaultValue ty) = vp_cell c0 (mr_arr B xa (f n.toNatClampNeg))) → W p l e R s m args below meth c H locs cells slots Q (F0 m pc lr (.int n :: rest)) := by
    intro ty t0 hty ht hno hw hk5 hcb hcell
    subst hty
    refine va_newaK hx hb (hts _ hw) (g := F0 m pc lr (.int n :: rest)) rfl hdg rfl h0 rfl (by have := Nat.mul_le_mul h1 hcb; omega) hcells hslots hsz fun H1 c0 e1 z1 o1 hAr hNm => ?_
    have hc0 : c0 = cA k := by
      have h9 := (hK.2 t0 _ ht).2
      cases hq : newarray.typeOf aty with
      | object C => exact absurd hq (hno C)
      | _ =>
        rw [hq] at h9 hNm
        exact Option.some.inj (hNm.symm.trans h9)
    subst hc0
    exact kk H1 (hW.mk hn (by rw [z1, hsz]) (fun q hq => o1 q (by omega)) (Or.inr ⟨hk5, by rw [e1, hcell]⟩))
  cases aty <;> simp [mq_arn] at hk
  · obtain ⟨rfl, rfl⟩ := hk
    exact main .boolean 1 rfl rfl (fun C h => by cases h) (mg_of (o := some mw_ac1) (by decide +kernel)) (by decide) (by decide) (fun _ => rfl)
  · obtain ⟨rfl, rfl⟩ := hk
    exact main .char 2 rfl rfl (fun C h => by cases h) (mg_of (o := some mw_ac2) (by decide +kernel)) (by decide) (by decide) (fun _ => rfl)
  · obtain ⟨rfl, rfl⟩ := hk
    exact main .int 0 rfl rfl (fun C h => by cases h) (mg_of (o := some mw_ac0) (by decide +kernel)) (by decide) (by decide) (fun _ => rfl)
  · obtain ⟨rfl, rfl⟩ := hk
    exact main .long 3 rfl rfl (fun C h => by cases h) (mg_of (o := some mw_ac3) (by decide +kernel)) (by decide) (by decide) (fun _ => rfl)
theorem mr_newq (hx : p.tables.exec = Jvm.exec) (hb : c.code = cc) (hown : s.vm.findClass (mp_cn.getD (mp_of mi).1 "") = some m.cls) (hts : ∀ w ∈ mg_tbl, w.before args s = true) (hK : va_K D mk_cl (mr_ty cA) s) (hO : va_AO "ShareTable$Table" s) (hW : mr_W D cA B xa X s H locs h) (hn : h.1 < mr_X)
    {idx : Nat} {n : Int32} (hl : mp_an mi idx = true) (h0 : ¬ n < 0) (h1 : n.toNatClampNeg ≤ 65536) (hcells : cells + 1 ≤ R.cells) (hslots : slots + n.toNatClampNeg ≤ R.slots) (hdg : decode cc pc = .ok (.anewarray idx, 3))
    (kk : ∀ H1 : Heap, mr_W D cA B xa X s H1 locs (mq_mk h n.toNatClampNeg (.inl (4, n.toNatClampNeg, .inr (.inr (.inr (.inr (fun _ => none))))))) → W p l e R s m args below meth c H1 locs (cells + 1) (slots + n.toNatClampNeg) Q (F0 m (pc + 3) lr (.ref (mr_a B xa h.1) :: rest))) : W p l e R s m args below meth c H locs cells slots Q (F0 m pc lr (.int n :: rest)) := by
  have hsz : H.size = B + h.1 := hW.1
  rw [mr_a_lo hn] at kk
  unfold mp_an at hl
  split at hl
  next ci w hq =>
    have hci : ci = mp_kt := by simpa using hl
    subst hci
    obtain ⟨f1, f2⟩ := mk_nw hq
    have f1 : Cond.classLink (mp_cn.getD (mp_of mi).1 "") idx "ShareTable$Table" ∈ mg_tbl := f1
    refine W.anew hx hb hown (hts _ f1) (va_AO.use hO) (g := F0 m pc lr (.int n :: rest)) rfl hdg rfl h0 (by omega) hcells hslots fun c0 kA comp e1 e2 e3 e4 => ?_
    obtain ⟨kA', comp', -, -, -, e5⟩ := (hK.2 4 _ rfl).2
    have hc0 : c0 = cA 4 := Option.some.inj (e1.symm.trans e5)
    subst hc0
    rw [hsz]
    refine kk _ (hW.mk hn (by rw [Array.size_push]) (fun q hq => by rw [Array.getElem?_push, if_neg (Nat.ne_of_lt hq)]) (Or.inr ⟨by decide, ?_⟩))
    rw [← hsz, Array.getElem?_push_size, arrV_new]
    rfl
  next => cases hl
end MR2
