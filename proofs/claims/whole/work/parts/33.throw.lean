/-! THROWS -/
def mt_cls : String := "java/util/NoSuchElementException"
def mt_names : List String := ["java/lang/RuntimeException", "java/lang/Exception"]
def mt_at : List Cond := vx_at0 mt_own mt_ic mt_cls mt_names
def mt_cd : Cond → Bool
  | .castable _ _ => true
  | .declares _ => true
  | _ => false
theorem mt_split : mt_at.all (fun w => (goodWord w && decide (w ∈ lw_tbl)) || (mt_cd w && decide (w ∈ lw_tbl))) = true := by decide +kernel
theorem mt_warm {w : Cond} (hw : mt_cd w = true) {s U : State} (hW : s.WarmedH U.vm) (h : va_Nw w s) : va_Nw w U := by
  unfold mt_cd at hw
  split at hw
  · exact va_Nw.warmC hW h
  · exact va_Nw.warmD hW h
  · cases hw
theorem mt_onT {w : Cond} (hw : mt_cd w = true) : w.onTables = true := by
  unfold mt_cd at hw
  split at hw
  · rfl
  · rfl
  · cases hw
/-- what a throw needs of the state, beside the good words -/
def mt_E (B : Nat) (U : State) : Prop := vx_Zq Bundle.tN "UNASSIGNED_STACK" Bundle.steD (fun q => B ≤ q) U U.heap ∧ vx_Zq Bundle.tN "SUPPRESSED_SENTINEL" Bundle.listD (fun q => B ≤ q) U U.heap ∧ (∀ w ∈ mt_at, mt_cd w = true → va_Nw w U) ∧ va_Nw (.castable mt_cls mt_cls) U
theorem mt_E.moved {B : Nat} {s U : State} (hE : mt_E B s) (hW : s.WarmedH U.vm) (hq : ∀ q, q < B → U.heap[q]? = s.heap[q]?) : mt_E B U := by
  have hk : ∀ a : Nat, a < s.heap.size → ¬ (fun q => B ≤ q) a → U.heap[a]? = s.heap[a]? := fun a _ ha => hq a (Nat.not_le.mp ha)
  exact ⟨(vx_Zq.moved hW.alike hE.1).kept hk, (vx_Zq.moved hW.alike hE.2.1).kept hk, fun w hw hc => mt_warm hc hW (hE.2.2.1 w hw hc), va_Nw.warmC hW hE.2.2.2⟩
theorem mt_hat {B : Nat} {s : State} {args : Array Value} (hts : ∀ w ∈ mg_tbl, w.before args s = true) (hE : mt_E B s) : ∀ w ∈ mt_at, w.before args s = true := by
  intro w hw
  have h1 := List.all_eq_true.mp mt_split w hw
  simp only [Bool.or_eq_true, Bool.and_eq_true, decide_eq_true_eq] at h1
  rcases h1 with ⟨h1, h2⟩ | ⟨h1, h2⟩
  · exact hts w (List.mem_filter.mpr ⟨h2, h1⟩)
  · exact va_Nw.use (mt_onT h1) (hE.2.2.1 w hw h1)
section MX
variable {p : Program} {l : Launch} {e : Env} {R : Room} {s : State} {m : MethodId} {args : Array Value} {below : List Frame} {meth : Method} {c : Code} {H : Heap} {locs : List Loc} {cells slots : Nat} {Q : State → Prop}
variable {mc ms : Nat} {free : Addr → Prop} {A0 A1 : Nat → Prop} {H0 : Heap} {a : Array Value} {ls : Array Slot} {st0 rest : List Value}
variable {Qc : Array Value → State → Outcome → State → Prop} {XC : String → State → State → Prop}
/-- 'throw new E()', told with the heap's size behind it (after vx_throw0) -/
theorem mt_throw0 {cc : ByteArray} {pc : Nat} (hexec : p.tables.exec = Jvm.exec) (hb : c.code = cc) (hl : l.stackTraces = false) {own cls : String} {names : List String} {ik ic mc ms : Nat} {A : Nat → Prop}
    (hown : s.vm.findClass own = some m.cls) (hcls : Bundle.fit cls = true) (hnames : ∀ n ∈ names, Bundle.fit n = true)
    (hk : (Cond.classLink own ik cls).before args s = true) (hini : (Cond.initialized cls).before args s = true) (hat : ∀ w ∈ vx_at0 own ic cls names, w.before args s = true)
    (hgood : ∀ w ∈ Cond.classLink own ik cls :: Cond.initialized cls :: vx_at0 own ic cls names, vx_ot w = true)
    (hU : vx_Zq Bundle.tN "UNASSIGNED_STACK" Bundle.steD A s s.heap) (hN : vx_Zq Bundle.tN "SUPPRESSED_SENTINEL" Bundle.listD A s s.heap) (hS : va_S A s.heap H locs) (hsize : ls.size = c.maxLocals)
    (d0 : decode cc pc = .ok (.new ik, 3)) (d3 : decode cc (pc + 3) = .ok (.dup, 1)) (d4 : decode cc (pc + 4) = .ok (.invokespecial ic, 3)) (d7 : decode cc (pc + 7) = .ok (.athrow, 1))
    (hout : ∀ x ∈ c.exceptionTable.toList, covers x (pc + 7) = false)
    (hRframes : names.length + 3 < R.frames) (hRlocals : (rest.map fun v => v.category).sum + (13 * (names.length + 1) + 42) ≤ R.locals) (hRcells : cells + 1 ≤ R.cells) (hRslots : slots + 6 ≤ R.slots) (hlocks : meth.locks = false)
    (hx : ∀ t : State, s.vm.Alike t.vm → t.heap.size = H.size + 1 → (∀ q : Nat, q < H.size → t.heap[q]? = H[q]?) → XC cls s t)
    (hf : ∀ z ∈ locs, free z.base) (hc : cells + 1 ≤ mc) (hs : slots + 6 ≤ ms) :
    W p l e R s m args below meth c H locs cells slots (vx_MQ below Qc XC args s mc ms free) (F0 m pc ls rest) := by
  intro T hT X
  have htr : e.platform.stackTraces = false := (show e.platform.stackTraces = l.stackTraces by rw [X.admits.platform]).trans hl
  have Y := vx_rebase X (R' := { frames := R.frames, locals := R.locals, cells := 1, slots := 6 }) (Nat.le_refl _) (Nat.le_refl _) hRcells hRslots
  obtain ⟨s', hA⟩ : ∃ z, z = (T.setVm s.vm).setFrames (.invoking m args :: below) := ⟨_, rfl⟩
  rw [← hA] at Y
  have hvm : s'.vm = s.vm := by rw [hA]; rfl
  have hhp : s'.heap = H := by rw [hA]; exact hT
  have hW0 : s.WarmedH s'.vm := by rw [hvm]; exact State.WarmedH.refl s
  have hat' : ∀ w ∈ vx_at0 own ic cls names, w.before args s' = true := fun w hw => vx_ot_at hW0 hvm.symm (hgood w (List.mem_cons_of_mem _ (List.mem_cons_of_mem _ hw))) (hat w hw)
  have hk' : (Cond.classLink own ik cls).before args s' = true := vx_ot_at hW0 hvm.symm (hgood _ List.mem_cons_self) hk
  have hini' : (Cond.initialized cls).before args s' = true := vx_ot_at hW0 hvm.symm (hgood _ (List.mem_cons_of_mem _ List.mem_cons_self)) hini
  have hU' : vx_Zq Bundle.tN "UNASSIGNED_STACK" Bundle.steD A s' s'.heap := by rw [hhp]; exact vx_Zq.moved hW0.alike (hU.kept hS.2.1)
  have hN' : vx_Zq Bundle.tN "SUPPRESSED_SENTINEL" Bundle.listD A s' s'.heap := by rw [hhp]; exact vx_Zq.moved hW0.alike (hN.kept hS.2.1)
  have h : ∀ w ∈ Bundle.ownAtoms0 own ic cls names, w.before args s' = true := vx_own hat' (vx_isRefq hU'.1) (vx_isRefq hN'.1) hU'.2.word hN'.2.word
  have hown' : s'.vm.findClass own = some m.cls := by rw [hvm]; exact hown
  have hins : (Cond.instantiable cls 6).before args s' = true := h _ (by simp [Bundle.ownAtoms0])
  obtain ⟨vm₁, cX, kX, hfX, hkX, -, -, X₁, st1⟩ := Y.newCold hexec (own := own) (C := cls) (index := ik) (n := 6) hown' hk' hins hini'
    (g := F0 m pc ls rest) rfl (by rw [hb]; exact d0) (Nat.le_refl _) (Nat.le_refl _)
  generalize hT1 : (T.setVm vm₁).pushCell { cls := cX, slots := kX.instanceTypes.map defaultValue, vm := .none } = T1 at X₁ st1
  have hcat : (Value.ref T.heap.size).category = 1 := rfl
  have hcellA : T1.heap[T.heap.size]? = some (freshCell cX kX) := by rw [← hT1]; exact State.heap_pushCell_size _ _
  have d3' : decode c.code (pc + 3) = .ok (.dup, 1) := by rw [hb]; exact d3
  obtain ⟨U, hsteps, hrun, hend, hW, hsame, ce, hce, hO⟩ := X₁.ctorThrow0 hexec htr (own := own) (cls := cls) (names := names) (ic := ic) hown' hcls hnames h (fun x hx => nomatch hx) hfX hkX hcellA (by rw [hhp, hT]; exact Nat.le_refl _)
    (g := { method := m, pc := pc + 4, locals := ls, stack := .ref T.heap.size :: .ref T.heap.size :: rest, locked := none }) rfl hsize rfl rfl (rest := rest) rfl
    (by rw [hb]; exact d4) (by rw [hb]; exact d7) hout hRframes (by simp only [List.map_cons, List.sum_cons, hcat]; omega) hlocks
  obtain ⟨f1, f2⟩ := vx_frame hsame
  have f3 : U.heap.size ≤ s'.heap.size + (0 + 1) := hsame.2.2.1
  rw [hhp] at f1 f2 f3
  have f4 : T.heap.size < U.heap.size := (Array.getElem?_eq_some_iff.mp hce).1
  have f5 : U.heap.size = H.size + 1 := by rw [hT] at f4; omega
  have hWs : s.WarmedH U.vm := State.WarmedH.trans hW0 hW
  have hcl : s.vm.findClass cls = some ce.cls := by
    have h9 := hO.cls
    rw [hvm] at h9
    exact h9
  have hall : s.sameButNew ({ U with vm := s.vm } : State) locs mc ms := by
    subst hA
    obtain ⟨e1, e2⟩ := hsame
    rw [State.setFrames_setFrames] at e1
    have h2 : (T.setVm s.vm).sameButNew ({ U with vm := s.vm } : State) [] (0 + 1) (0 + 6) := ⟨e1, e2⟩
    have h3 := X.same.trans h2
    rw [List.append_nil] at h3
    exact h3.mono hc hs
  refine ⟨U, ?_, .threw T.heap.size, hrun, hend, Or.inr ⟨T.heap.size, rfl, cls, ce, locs, hx U hWs.alike f5 (fun q hq => f2 q hq (fun z hz => nomatch hz)), hce, hO.vm, hcl, hWs, hall, hf⟩⟩
  refine st1 _ ?_
  show Steps p.tables e below (T1.setTop { method := m, pc := pc + 3, locals := ls, stack := .ref T.heap.size :: rest, locked := none }) _
  jvm_step X₁.here [X₁.here.top, hexec, d3', Value.category]
  exact hsteps
end MX

def mt_X (D : va_G) (cA : Nat → ClassId) (B : Nat) (xa : Nat → Nat) (X : Nat → mq_E) (h' : mq_H) : String → State → State → Prop := fun E st t => E = mt_cls ∧ ms_H D cA B xa X t.heap h' ∧ va_F (fun q => B ≤ q) st t
theorem mt_goodAll : (Cond.classLink mt_own mt_ik mt_cls :: Cond.initialized mt_cls :: vx_at0 mt_own mt_ic mt_cls mt_names).all vx_ot = true := by decide +kernel
theorem mt_fit : Bundle.fit mt_cls = true ∧ ∀ n ∈ mt_names, Bundle.fit n = true := by
  refine ⟨by decide +kernel, ?_⟩
  have h : mt_names.all Bundle.fit = true := by decide +kernel
  exact fun n hn => List.all_eq_true.mp h n hn
theorem mt_iniw : Cond.initialized mt_cls ∈ mg_tbl := mg_of (o := some mt_ini) (by decide +kernel)
set_option maxHeartbeats 4000000 in
/-- a frame of the model that throws brings the machine's frame to its throw -/
theorem ms_simX {l : Launch} (hl : l.stackTraces = false) : ∀ (n d mi pc : Nat) (ls : mq_L) (st : List Value) (h h' : mq_H), mq_ex n d mi pc ls st h = some (none, h') → (∀ q, mp_hd mi q = none) → (∀ idx mj, mp_lk mi idx ≠ some (mj, 5)) →
  ∀ (p : Program) (e : Env) (R : Room) (s : State) (m : MethodId) (args : Array Value) (below : List Frame) (meth : Method) (c : Code) (H : Heap) (locs : List Loc) (Qc : Array Value → State → Outcome → State → Prop) (lr : Array Slot) (D : va_G) (cA : Nat → ClassId) (B : Nat) (xa : Nat → Nat) (X : Nat → mq_E) (n0 w0 : Nat),
  p.tables.exec = Jvm.exec → c.code = mk_b mi → c.maxLocals = mp_mx mi → s.vm.findClass (mp_cn.getD (mp_of mi).1 "") = some m.cls → (∀ w ∈ mg_tbl, w.before args s = true) → ms_E D cA B xa X s → mt_E B s → (mp_inT.getD mi false = true → meth.name = "<init>") → (∀ x ∈ c.exceptionTable.toList, False) → meth.locks = false → d ≤ R.frames → 100 * d ≤ R.locals →
  mr_W D cA B xa X s H locs h → mr_L B xa lr (mp_mx mi) ls → n0 ≤ h.1 → w0 ≤ h.2.1 → h'.1 < mr_X → h'.1 - n0 ≤ R.cells → h'.2.1 - w0 ≤ R.slots →
  W p l e R s m args below meth c H locs (h.1 - n0) (h.2.1 - w0) (vx_MQ below Qc (mt_X D cA B xa X h') args s (h'.1 - n0) (h'.2.1 - w0) (fun q => B ≤ q)) (F0 m pc lr (st.map (mr_v B xa)))
  | 0, d, mi, pc, ls, st, h, h', he => by simp [mq_ex] at he
  | n + 1, d, mi, pc, ls, st, h, h', he => by
    intro hhd h5 p e R s m args below meth c H locs Qc lr D cA B xa X n0 w0 hx hb hml hown hts hE hE2 hnm hout hlocks hfr hlo hW hL hn0 hw0 hn hrc hrs
    have hmo := ms_mono (n + 1) d mi pc ls st h _ h' he
    unfold mq_ex at he
    split at he
    next => obtain ⟨q, -⟩ := mq_ck_yes he; cases q
    next pc2 ls2 st2 h2 hs =>
      have hm2 := ms_mono n d mi pc2 ls2 st2 h2 _ h' he
      unfold mq_st at hs
      split at hs
      next i k hi =>
        obtain ⟨hd, hln⟩ := md_at hi
        have hm3 := mv_mono hs
        refine mr_step hx hb hown hts hE.2.1 hE.2.2.1 hE.2.2.2.1 (hE.2.2.2.2.1 mi) ?_ hnm hW (by omega) hL hn0 hw0 hd hln hs (by omega) (by omega) (fun lr' H' locs' hL' hW' => ?_)
        · intro idx v pc H locs cells slots lr rest hv hS9 hd9 kk9
          obtain ⟨rfl, hw⟩ := mk_sg hv
          exact va_gets hx hb hE.2.2.2.2.2.1 hS9 hown (hts _ hw) (fun _ h => h) hd9 kk9
        · exact ms_simX hl n d mi pc2 ls2 st2 h2 h' he hhd h5 p e R s m args below meth c H' locs' Qc lr' D cA B xa X n0 w0 hx hb hml hown hts hE hE2 hnm hout hlocks hfr hlo hW' hL' (by omega) (by omega) hn hrc hrs
      next => cases hs
    next mj as rest hs =>
      split at he
      next => cases he
      next d' =>
        split at he
        next hal =>
          split at he
          next v1 h1 hq =>
            have a1 := ms_mono n d' mj 0 _ [] h _ h1 hq
            have a2 := ms_mono n (d' + 1) mi (pc + 3) ls _ h1 _ h' he
            unfold mq_st at hs
            split at hs
            next i k hi =>
              refine ms_call (ms_sim n) hx hb hml hown hts hE hfr hlo hW hL hn0 hw0 (by omega) (by omega) (by omega) hi hs (fun idx _ => h5 idx mj) hal hq (fun H' locs' hW' => ?_)
              exact ms_simX hl n (d' + 1) mi (pc + 3) ls (v1.toList ++ rest) h1 h' he hhd h5 p e R s m args below meth c H' locs' Qc lr D cA B xa X n0 w0 hx hb hml hown hts hE hE2 hnm hout hlocks hfr hlo hW' hL (by omega) (by omega) hn hrc hrs
            next => cases hs
          next h1 hq =>
            rw [hhd pc] at he
            cases he
          next => cases he
        next => cases he
    next v9 hs => cases he
    next hs =>
      split at he
      next hd6 =>
        cases he
        unfold mq_st at hs
        split at hs
        next i k hi =>
          rcases mv_plain hs with ⟨idx, -, hc⟩ | ⟨idx, -, hc⟩ | ⟨idx, -, hc⟩ | ⟨-, x, ty, -, hz, -⟩ | ⟨-, x, -, hz, -⟩ | ⟨-, -, hz⟩ | ⟨-, -, hz, -⟩ | ⟨idx, w, rfl, hw, rfl, -⟩
          · exact absurd hc mv_noend
          · exact absurd hc mv_noend
          · exact absurd hc mv_noend
          · cases hz
          · cases hz
          · rcases hz with ⟨x, -, hz⟩ | ⟨-, hz⟩ <;> cases hz
          · cases hz
          · obtain ⟨c1, c2, c3, c4, c5⟩ := mt_at_new hi hw
            obtain ⟨hd, hln⟩ := md_at hi
            obtain rfl := mr_ln hln (fun _ _ _ _ h => by cases h)
            subst c2
            rw [c1] at hown
            have hk := (mk_nw hw).1
            rw [c1] at hk
            have hsz : H.size = B + h.1 := hW.1
            have r1 : h.1 + 1 - n0 ≤ R.cells := hrc
            have r2 : h.2.1 + 6 - w0 ≤ R.slots := hrs
            refine mt_throw0 (own := mt_own) (cls := mt_cls) (names := mt_names) (ik := mt_ik) (ic := mt_ic) (A := fun q => B ≤ q) hx hb hl hown mt_fit.1 mt_fit.2 (hts _ hk) (hts _ mt_iniw) (mt_hat hts hE2) (fun w hw => List.all_eq_true.mp mt_goodAll w hw) hE2.1 hE2.2.1 hW.2.2.2.2.2 (by rw [hml]; exact hL.2.1) hd (md_at c3).1 (md_at c4).1 (md_at c5).1 (fun x hx => (hout x hx).elim) (by show 2 + 3 < R.frames; omega) (by show 0 + (13 * (2 + 1) + 42) ≤ R.locals; omega) (by omega) (by omega) hlocks ?_ hW.2.2.2.2.2.2.2 (by show h.1 - n0 + 1 ≤ h.1 + 1 - n0; omega) (by show h.2.1 - w0 + 6 ≤ h.2.1 + 6 - w0; omega)
            intro t hal ht hq
            obtain ⟨w1, w2, w3, w4, w5, w6⟩ := hW
            have hn' : h.1 + 1 < mr_X := hn
            refine ⟨rfl, ⟨by rw [ht, hsz]; show B + h.1 + 1 = B + (h.1 + 1); omega, fun k hk => ?_, fun k hk hk2 => w4 k (by have : h.1 + 1 ≤ k := hk; omega) hk2, w5⟩, ⟨by rw [ht]; exact Nat.le_trans w6.1 (by omega), fun q q1 q2 => by rw [hq q (Nat.lt_of_lt_of_le q1 w6.1)]; exact w6.2.1 q q1 q2⟩⟩
            have hk' : k < h.1 + 1 := hk
            by_cases e9 : k = h.1
            · show mr_at D cA B xa (B + k) (h.2.2 k) t.heap
              rw [e9, w4 h.1 (Nat.le_refl _) (by omega)]
              exact Or.inl rfl
            · exact (w3 k (by omega)).kept (hq _ (by omega))
        next => cases hs
      next => cases he
