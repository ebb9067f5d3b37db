/-! A RUN OF THE MODEL IS A RUN OF THE MACHINE -/
def ms_H (D : va_G) (cA : Nat → ClassId) (B : Nat) (xa : Nat → Nat) (X : Nat → mq_E) (H : Heap) (h : mq_H) : Prop := H.size = B + h.1 ∧ (∀ k, k < h.1 → mr_at D cA B xa (B + k) (h.2.2 k) H) ∧ (∀ k, h.1 ≤ k → k < mr_X → h.2.2 k = mq_dead) ∧ (∀ k, mr_X ≤ k → h.2.2 k = X k)
/-- what holds of a state, whatever the method: the classes, what was there before -/
def ms_E (D : va_G) (cA : Nat → ClassId) (B : Nat) (xa : Nat → Nat) (X : Nat → mq_E) (U : State) : Prop := B ≤ U.heap.size ∧ va_K D mk_cl (mr_ty cA) U ∧ mr_Xf B xa X U ∧ va_AO "ShareTable$Table" U ∧ (∀ mi idx a, mp_ks mi idx = some a → ∃ tx, vk_R (mp_cn.getD (mp_of mi).1 "") idx tx (mr_a B xa a) U) ∧
  va_Z "java/lang/String" "COMPACT_STRINGS" "Z" (.int 1) (fun q => B ≤ q) U U.heap ∧ (∀ mi idx mj, mp_lk mi idx = some (mj, 3) → va_Nw (.methodLinkNest (mp_cn.getD (mp_of mi).1 "") idx (mk_y mj) mk_host) U) ∧ va_Zq mx_pre "SIOOBE_FORMATTER" mx_bf (fun q => B ≤ q) U U.heap
section ME
variable {D : va_G} {cA : Nat → ClassId} {B : Nat} {xa : Nat → Nat} {X : Nat → mq_E}
theorem mr_Xf.moved {s U : State} (hE : mr_Xf B xa X s) (hvm : s.vm.Alike U.vm) (hq : ∀ q, q < B → U.heap[q]? = s.heap[q]?) : mr_Xf B xa X U := by
  intro j
  obtain ⟨h1, h2⟩ := hE j
  have hk : ∀ a : Nat, a < s.heap.size → ¬ (fun q => B ≤ q) a → U.heap[a]? = s.heap[a]? := fun a _ ha => hq a (Nat.not_le.mp ha)
  refine ⟨h1, ?_⟩
  revert h2
  cases X (mr_X + j) with
  | inl x =>
    obtain ⟨k, n, y⟩ := x
    cases y with
    | inl g =>
      intro h2
      rcases h2 with h2 | ⟨h2, h3⟩ | ⟨h2, h3⟩
      · exact Or.inl h2
      · exact Or.inr (Or.inl ⟨h2, (h3.moved hvm).kept (hq _ h1)⟩)
      · exact Or.inr (Or.inr ⟨h2, (va_T.moved hvm h3).kept hk⟩)
    | inr g => exact fun h => h
  | inr x =>
    obtain ⟨c, fs⟩ := x
    intro h2
    obtain ⟨a1, v, a2, a3, a4, a5⟩ := h2
    exact ⟨a1, v, a2, (va_O.moved hvm a3).kept hk, (va_OF.moved hvm a4).kept hk, (va_OF.moved hvm a5).kept hk⟩
theorem ms_E.moved {s U : State} (hE : ms_E D cA B xa X s) (hW : s.WarmedH U.vm) (hsz : B ≤ U.heap.size) (hq : ∀ q, q < B → U.heap[q]? = s.heap[q]?) : ms_E D cA B xa X U := by
  obtain ⟨h1, h2, h3, h4, h5, h6, h7, h8⟩ := hE
  have hk : ∀ a : Nat, a < s.heap.size → ¬ (fun q => B ≤ q) a → U.heap[a]? = s.heap[a]? := fun a _ ha => hq a (Nat.not_le.mp ha)
  exact ⟨hsz, h2.moved hW.alike, h3.moved hW.alike hq, h4.moved hW.alike, fun mi idx a ha => by obtain ⟨tx, h⟩ := h5 mi idx a ha; exact ⟨tx, h.warm hW⟩, (va_Z.moved hW.alike h6).kept hk, fun mi idx mj hm => va_Nw.warmM hW (h7 mi idx mj hm), (va_Zq.moved hW.alike h8).kept hk⟩
theorem ms_H.of {s : State} {H : Heap} {locs : List Loc} {h : mq_H} (hW : mr_W D cA B xa X s H locs h) : ms_H D cA B xa X H h := ⟨hW.1, hW.2.2.1, hW.2.2.2.1, hW.2.2.2.2.1⟩
theorem ms_H.W {s : State} {H : Heap} {locs : List Loc} {h : mq_H} (hH : ms_H D cA B xa X H h) (hB : B ≤ s.heap.size) (hS : va_S (fun q => B ≤ q) s.heap H locs) : mr_W D cA B xa X s H locs h := ⟨hH.1, hB, hH.2.1, hH.2.2.1, hH.2.2.2, hS⟩
end ME
def ms_P (D : va_G) (cA : Nat → ClassId) (B : Nat) (xa : Nat → Nat) (X : Nat → mq_E) (as : List Value) (h : mq_H) : Array Value → State → Prop := fun v U => v = (as.map (mr_v B xa)).toArray ∧ ms_H D cA B xa X U.heap h ∧ ms_E D cA B xa X U
def ms_Q (D : va_G) (cA : Nat → ClassId) (B : Nat) (xa : Nat → Nat) (X : Nat → mq_E) (r : Option Value) (h' : mq_H) : Array Value → State → Outcome → State → Prop := fun _ st o t => o = .returned (r.map (mr_v B xa)) ∧ ms_H D cA B xa X t.heap h' ∧ va_F (fun q => B ≤ q) st t
def ms_ws (mi : Nat) : List Cond := Cond.code (mk_y mi) (mk_b mi) (mp_mx mi) (mp_rt mi) :: mg_tbl
def ms_R (d mc ms : Nat) : Room := { frames := d, cells := mc, slots := ms, locals := 100 * d }
theorem ms_blind (D : va_G) (cA : Nat → ClassId) (B : Nat) (xa : Nat → Nat) (X : Nat → mq_E) (as : List Value) (h : mq_H) : FrameBlind (ms_P D cA B xa X as h) := by
  intro a U g mk hp
  exact ⟨hp.1, hp.2.1, hp.2.2.moved (State.WarmedH.refl U) hp.2.2.1 (fun _ _ => rfl)⟩
theorem ms_ofW {l : Launch} {y : MethodName} {ws ws' : List Cond} {rm : Room} {Pc : Array Value → State → Prop} {Qc : Array Value → State → Outcome → State → Prop} {mc ms : Nat} {free : Addr → Prop} {cc : ByteArray} {maxL : Nat} {ret : Option FieldType}
    (hy : plainFor y = true) (hw : ws = Cond.code y cc maxL ret :: ws')
    (body : ∀ p e s m args below meth c s₁, BodyLoose p l y (headSpec ws rm) cc maxL ret e s m args below meth c s₁ → c.maxLocals = maxL → Pc args s →
      W p l e (headSpec ws rm).room s m args below meth c s.heap [] 0 0 (MQ below Qc args s mc ms free) (entryFrame m args maxL)) : Met l y ws rm Pc Qc mc ms free := by
  refine MetFree.of_bodySF (code := cc) (maxLocals := maxL) (ret := ret) hy ?_ ?_
  · intro args s m h hn
    obtain ⟨meth, c, h1, h2, h3, h4, h5, h6, -, -⟩ := Cond.code_spec hn (atoms_spec (ws := ws) h _ (by rw [hw]; exact List.mem_cons_self))
    exact ⟨meth, c, h1, h2, h3, h4, h5, h6⟩
  · intro p e s m args below meth c s₁ B hml hP _
    have hh0 : s₁.heap = s.heap := by rw [B.state]; rfl
    obtain ⟨t, a1, o, b1, b2, b3⟩ := body p e s m args below meth c s₁ B hml hP s₁ hh0 (Stand.of_body B)
    exact ⟨t, o, a1, b1, b2, ⟨b3.1, b3.2⟩⟩
/-- the claim of this part, for runs of n steps: a frame of the model that comes to its end brings the machine's frame there -/
def ms_Sim (n : Nat) : Prop := ∀ (d mi pc : Nat) (ls : mq_L) (st : List Value) (h : mq_H) (v : Option Value) (h' : mq_H), mq_ex n d mi pc ls st h = some (some v, h') → ¬ mi = 298 → (∀ q, mp_hd mi q = none) → (∀ idx mj, mp_lk mi idx ≠ some (mj, 5)) →
  ∀ (p : Program) (l : Launch) (e : Env) (R : Room) (s : State) (m : MethodId) (args : Array Value) (below : List Frame) (meth : Method) (c : Code) (H : Heap) (locs : List Loc) (Q : State → Prop) (lr : Array Slot) (D : va_G) (cA : Nat → ClassId) (B : Nat) (xa : Nat → Nat) (X : Nat → mq_E) (n0 w0 : Nat),
  p.tables.exec = Jvm.exec → c.code = mk_b mi → c.maxLocals = mp_mx mi → s.vm.findClass (mp_cn.getD (mp_of mi).1 "") = some m.cls → (∀ w ∈ mg_tbl, w.before args s = true) → ms_E D cA B xa X s → (mp_inT.getD mi false = true → meth.name = "<init>") → d ≤ R.frames → 100 * d ≤ R.locals →
  mr_W D cA B xa X s H locs h → mr_L B xa lr (mp_mx mi) ls → n0 ≤ h.1 → w0 ≤ h.2.1 → h'.1 < mr_X → h'.1 - n0 ≤ R.cells → h'.2.1 - w0 ≤ R.slots →
  (∀ (pc' : Nat) (ls' : mq_L) (st' : List Value) (lr' : Array Slot) (H' : Heap) (locs' : List Loc), mq_st mi pc' ls' st' h' = some (.inr (.inr (some v))) → mr_W D cA B xa X s H' locs' h' → W p l e R s m args below meth c H' locs' (h'.1 - n0) (h'.2.1 - w0) Q (F0 m pc' lr' (st'.map (mr_v B xa)))) →
  W p l e R s m args below meth c H locs (h.1 - n0) (h.2.1 - w0) Q (F0 m pc lr (st.map (mr_v B xa)))
section MT
variable {p : Program} {l : Launch} {e : Env} {R : Room} {s : State} {m : MethodId} {args : Array Value} {below : List Frame} {meth : Method} {c : Code} {H : Heap} {locs : List Loc} {D : va_G} {cA : Nat → ClassId} {B : Nat} {xa : Nat → Nat} {X : Nat → mq_E}
/-- the end of a method: it returns what the model does -/
theorem ms_ret {mi pc cells slots : Nat} {ls : mq_L} {st : List Value} {h : mq_H} {v : Option Value} {lr : Array Slot} (hx : p.tables.exec = Jvm.exec) (hb : c.code = mk_b mi) (hr : meth.sig.returnType = mp_rt mi) (hlocks : meth.locks = false) (h0 : mq_st mi pc ls st h = some (.inr (.inr (some v)))) (hW : mr_W D cA B xa X s H locs h) :
    W p l e R s m args below meth c H locs cells slots (MQ below (ms_Q D cA B xa X v h) args s cells slots (fun q => B ≤ q)) (F0 m pc lr (st.map (mr_v B xa))) := by
  have hf : ∀ q ∈ locs, (fun q => B ≤ q) q.base := hW.2.2.2.2.2.2.2
  have hq : ∀ t : State, t.heap = H → s.WarmedH t.vm → ms_Q D cA B xa X v h args s (.returned (v.map (mr_v B xa))) t := fun t ht _ => ⟨rfl, by rw [ht]; exact ms_H.of hW, hW.2.2.2.2.2.F ht⟩
  unfold mq_st at h0
  split at h0
  next i n hi =>
    obtain ⟨hd, hln⟩ := md_at hi
    rcases mv_plain h0 with ⟨idx, -, hc⟩ | ⟨idx, -, hc⟩ | ⟨idx, -, hc⟩ | ⟨rfl, x, ty, rfl, hz, hty, hn⟩ | ⟨rfl, x, rfl, hz, hty⟩ | ⟨rfl, hra, hz⟩ | ⟨rfl, rfl, hz, hty⟩ | ⟨idx, w, rfl, hl, rfl, hz⟩
    · exact absurd hc mv_noend
    · exact absurd hc mv_noend
    · exact absurd hc mv_noend
    · cases hz
      obtain rfl := mr_ln hln (fun _ _ _ _ h => by cases h)
      exact W.zret hx hb (hr.trans hty) hn hq hf hd hlocks
    · cases hz
      obtain rfl := mr_ln hln (fun _ _ _ _ h => by cases h)
      exact W.lret hx hb (hr.trans hty) hq hf hd hlocks
    · obtain rfl := mr_ln hln (fun _ _ _ _ h => by cases h)
      have hrt : ∃ rt, mp_rt mi = some rt ∧ ((∃ n, rt = .object n) ∨ ∃ t, rt = .array t) := by
        unfold mp_ra at hra
        split at hra
        next n e => exact ⟨_, e, Or.inl ⟨_, rfl⟩⟩
        next n e => exact ⟨_, e, Or.inr ⟨_, rfl⟩⟩
        next => cases hra
      obtain ⟨rt, hrt, hk⟩ := hrt
      rcases hz with ⟨x, rfl, hz⟩ | ⟨rfl, hz⟩
      · cases hz
        exact W.aret hx hb (hr.trans hrt) hk (Or.inr ⟨_, rfl⟩) hq hf hd hlocks
      · cases hz
        exact W.aret hx hb (hr.trans hrt) hk (Or.inl rfl) hq hf hd hlocks
    · cases hz
      obtain rfl := mr_ln hln (fun _ _ _ _ h => by cases h)
      exact W.vret hx hb (hr.trans hty) hq hf hd hlocks
    · cases hz
  next => cases h0
/-- String.checkIndex of an index within, by the library's law of it -/
theorem mx_met {l : Launch} {x y : Int32} {d : Nat} {Pc : Array Value → State → Prop} {Qc : Array Value → State → Outcome → State → Prop} {B : Nat} (hd : 1 ≤ d) (hx : ¬ x < 0) (hy : x < y) (hq : ∀ st t : State, Pc #[.int x, .int y] st → t.heap = st.heap → Qc #[.int x, .int y] st (.returned none) t) (ha : ∀ a st, Pc a st → a = #[.int x, .int y]) (hz : ∀ a st, Pc a st → va_Zq mx_pre "SIOOBE_FORMATTER" mx_bf (fun q => B ≤ q) st st.heap) :
    Met l (mk_y 298) (ms_ws 298) (ms_R d 0 0) Pc Qc 0 0 (fun q => B ≤ q) := by
  intro p e hadm hcs hk s m args below hfr happ hP hK
  obtain ⟨a1, a2, a3, a4, a5, a6, a7, a8⟩ := (Spec.appliesLoose_iff hfr).mp happ
  have hargs := ha _ _ hP
  subst hargs
  have hw : ∀ w ∈ ms_ws 298, w.before #[.int x, .int y] s = true := atoms_spec a8
  have hg : ∀ w ∈ mg_tbl, w.before #[.int x, .int y] s = true := fun w h => hw w (List.mem_cons_of_mem _ h)
  have hy1 : mk_y 298 = Jvm.Lib.Cold.checkIndex.x := by decide +kernel
  have hc1 : Cond.code (mk_y 298) (mk_b 298) (mp_mx 298) (mp_rt 298) = Cond.code Jvm.Lib.Cold.checkIndex.x Jvm.Lib.Str.checkIndex.code 2 none := by decide +kernel
  have hcode : (Cond.code Jvm.Lib.Cold.checkIndex.x Jvm.Lib.Str.checkIndex.code 2 none).before #[.int x, .int y] s = true := by rw [← hc1]; exact hw _ List.mem_cons_self
  obtain ⟨fmt, hfm, hZ⟩ : ∃ fmt : Value, (fmt = .null ∨ ∃ t, fmt = .ref t) ∧ va_Z mx_pre "SIOOBE_FORMATTER" mx_bf fmt (fun q => B ≤ q) s s.heap := by
    rcases hz _ _ hP with h | ⟨t, h⟩
    · exact ⟨_, Or.inl rfl, h⟩
    · exact ⟨_, Or.inr ⟨t, rfl⟩, h⟩
  have hS : Jvm.Lib.Cold.StaticIs s mx_pre "SIOOBE_FORMATTER" mx_bf fmt := by
    obtain ⟨cf, kf, fi, f, a, cell, b1, b2, b3, b4, b5, b6, b7, -⟩ := hZ
    exact ⟨cf, fi, kf, f, a, cell, b1, b2, b3, b4, b5, (fun q => by rw [q] at b6; cases b6), b7⟩
  have hst := hg _ mx_w4
  have hG : Jvm.Lib.Cold.Sig s mx_PC := by
    cases hn : s.methodNamed? mx_PC with
    | none => simp [Cond.before, Cond.holds, Cond.value, hn] at hst
    | some mk =>
      obtain ⟨meth, c, c1, -, -, -, -, -, -, c8⟩ := Cond.code_spec hn (hg _ mx_w1)
      exact ⟨mk, meth, hn, c1, c8⟩
  have hpc : Jvm.Lib.Preconditions.checkIndex.spec.pre.before #[.int x, .int y, fmt] s = true := by
    have h0 : (Cond.code Jvm.Lib.Preconditions.checkIndex.name Jvm.Lib.Preconditions.checkIndex.code Jvm.Lib.Preconditions.checkIndex.maxLocals (some .int)).before #[.int x, .int y, fmt] s = true := word_at (State.WarmedH.refl s) (mg_good mx_w1) (hg _ mx_w1)
    simp only [Jvm.Lib.Preconditions.checkIndex.spec, Cond.before_and, Bool.and_eq_true]
    refine ⟨h0, rfl, rfl, rfl, ?_, ?_, ?_⟩
    · rcases hfm with rfl | ⟨t, rfl⟩ <;> rfl
    · simpa [Cond.before, Cond.holds, Cond.value, Term.eval] using hx
    · simpa [Cond.before, Cond.holds, Cond.value, Term.eval] using hy
  have hpre : Jvm.Lib.Cold.checkIndex.spec.pre.before #[.int x, .int y] s = true := by
    simp only [Jvm.Lib.Cold.checkIndex.spec, Cond.before_and, Bool.and_eq_true]
    exact ⟨hcode, rfl, hg _ mx_w2, hg _ mx_w3, hst, hg _ mx_w5⟩
  have h24 : 24 ≤ 100 * d := by omega
  have hrm : s.hasRoom e.platform Jvm.Lib.Cold.checkIndex.spec.room = true := Jvm.Free.hasRoom_mono (r := Jvm.Lib.Cold.checkIndex.spec.room) (r' := ms_R d 0 0) hd h24 (Nat.le_refl 0) (Nat.le_refl 0) a7
  obtain ⟨n, o, h1, h2, h3, ⟨h4, h5, h6⟩, h7⟩ := Jvm.Lib.Cold.checkIndex.met l x y fmt p e hadm hcs hk s m #[.int x, .int y] below hfr ((Spec.appliesLoose_iff hfr).mpr ⟨a1, a2, a3, by rw [← hy1]; exact a4, a5, a6, hrm, hpre⟩) ⟨rfl, hS, hG, hpc⟩ trivial
  subst h7
  refine ⟨n, _, h1, h2, h3, hq _ _ hP ?_, [], ⟨⟨_, rfl⟩, h5, h6.sameButNew 0 0⟩, fun q hq => nomatch hq⟩
  have h8 := congrArg State.heap (State.sameBut_nil.mp h6)
  exact h8
theorem ms_met298 {n d : Nat} {as : List Value} {h h1 : mq_H} {v : Option Value} (he : mq_ex n d 298 0 (mq_en as (mp_mx 298)) [] h = some (some v, h1)) (hal : (mq_al as).length ≤ mp_mx 298) (l : Launch) (D : va_G) (cA : Nat → ClassId) (B : Nat) (xa : Nat → Nat) (X : Nat → mq_E) :
    Met l (mk_y 298) (ms_ws 298) (ms_R d (h1.1 - h.1) (h1.2.1 - h.2.1)) (ms_P D cA B xa X as h) (ms_Q D cA B xa X v h1) (h1.1 - h.1) (h1.2.1 - h.2.1) (fun q => B ≤ q) := by
  have hm : mp_mx 298 = 2 := by decide +kernel
  rw [hm] at he hal
  cases n with
  | zero => simp [mq_ex] at he
  | succ n =>
    unfold mq_ex at he
    have hs : ∀ ls st, mq_st 298 0 ls st h = none := fun ls st => by unfold mq_st; rw [mq_no298]
    rw [hs] at he
    obtain ⟨ho, rfl, -, hd, x, y, hls, hx, hy⟩ := mq_ck_yes he
    have has := mq_en2 hal hls
    subst has
    cases ho
    rw [Nat.sub_self, Nat.sub_self]
    exact mx_met hd hx hy (fun st t hst hf => ⟨rfl, by rw [hf]; exact hst.2.1, by rw [hf]; exact Nat.le_refl _, fun q _ _ => by rw [hf]⟩) (fun a st hst => hst.1) (fun a st hst => hst.2.2.2.2.2.2.2.2.2)
/-- the contract of a method, out of its run -/
theorem ms_met {n d mj : Nat} {as : List Value} {h h1 : mq_H} {v : Option Value} (hS : ms_Sim n) (he : mq_ex n d mj 0 (mq_en as (mp_mx mj)) [] h = some (some v, h1)) (hal : (mq_al as).length ≤ mp_mx mj) (hpl : plainFor (mk_y mj) = true) (hhd : ∀ q, mp_hd mj q = none) (h5 : ∀ idx mk, mp_lk mj idx ≠ some (mk, 5)) (hcls : (mk_y mj).cls = mp_cn.getD (mp_of mj).1 "") (hini : mp_inT.getD mj false = true → (mk_y mj).name = "<init>") (hn : h1.1 < mr_X)
    (l : Launch) (D : va_G) (cA : Nat → ClassId) (B : Nat) (xa : Nat → Nat) (X : Nat → mq_E) :
    Met l (mk_y mj) (ms_ws mj) (ms_R d (h1.1 - h.1) (h1.2.1 - h.2.1)) (ms_P D cA B xa X as h) (ms_Q D cA B xa X v h1) (h1.1 - h.1) (h1.2.1 - h.2.1) (fun q => B ≤ q) := by
  by_cases h298 : mj = 298
  · subst h298
    exact ms_met298 he hal l D cA B xa X
  refine ms_ofW (cc := mk_b mj) (maxL := mp_mx mj) (ret := mp_rt mj) hpl rfl ?_
  intro p e s m args below meth c s₁ Bd hml hv
  obtain ⟨rfl, hH, hE⟩ := hv
  have hts0 := atoms_spec (ws := ms_ws mj) Bd.pre
  have hts : ∀ w ∈ mg_tbl, w.before (as.map (mr_v B xa)).toArray s = true := fun w hw => hts0 w (List.mem_cons_of_mem _ hw)
  have hown : s.vm.findClass (mp_cn.getD (mp_of mj).1 "") = some m.cls := by rw [← hcls]; exact findClass_of_methodNamed Bd.named
  have hnm : mp_inT.getD mj false = true → meth.name = "<init>" := fun q => by rw [(name_of_methodNamed Bd.named Bd.method).1]; exact hini q
  rw [lg_entry_eq]
  have h9 := hS d mj 0 (mq_en as (mp_mx mj)) [] h v h1 he h298 hhd h5 p l e (headSpec (ms_ws mj) (ms_R d (h1.1 - h.1) (h1.2.1 - h.2.1))).room s m (as.map (mr_v B xa)).toArray below meth c s.heap [] (MQ below (ms_Q D cA B xa X v h1) (as.map (mr_v B xa)).toArray s (h1.1 - h.1) (h1.2.1 - h.2.1) (fun q => B ≤ q)) _ D cA B xa X h.1 h.2.1 Bd.exec Bd.bytes hml hown hts hE hnm (Nat.le_refl _) (Nat.le_refl _) (hH.W hE.1 va_S.rf) (mr_entry hal) (Nat.le_refl _) (Nat.le_refl _) hn (Nat.le_refl _) (Nat.le_refl _)
    (fun pc' ls' st' lr' H' locs' h0 hW => ms_ret Bd.exec Bd.bytes Bd.returns Bd.notSynchronized h0 hW)
  rw [Nat.sub_self, Nat.sub_self] at h9
  exact h9
end MT
