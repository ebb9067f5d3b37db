/-! A RUN OF THE MODEL FROM THE LAW'S FIRST FRAME gives the walk of its body -/
def R_law : String := "ShareTableLaw"
def lw_P (b : Addr) (xs : List Int32) (args : Array Value) (s : State) : Prop := args = #[.ref b] ∧ s.IntsAt b xs ∧ xs.length ≤ 3584 ∧ (Jvm.Cond.and given_1 narrow_1).before args s = true
def lw_Q (_ : Array Value) (s : State) (o : Outcome) (t : State) : Prop := o = .returned (some (.int 1)) ∧ Framed s o t [] room_1.cells room_1.slots
def lw_Z (below : List Frame) (a : Array Value) (s : State) : State → Prop := fun t => ∃ o, t.status = .running ∧ Ended t below o ∧ lw_Q a s o t
/-- the law's own end, with 1 on the stack, nothing written that was there before, its room as the claim has it -/
theorem lw_ret {p : Program} {l : Launch} {e : Env} {s : State} {m : MethodId} {below : List Frame} {meth : Method} {c : Code} {b : Nat} (hx : p.tables.exec = Jvm.exec) (hb : c.code = code) (hr : meth.sig.returnType = ret) (hlocks : meth.locks = false) {pc : Nat} {H : Heap} {ls : Array Slot} (hdg : decode code pc = .ok (.ireturn, 1)) : W p l e room_1 s m #[Value.ref b] below meth c H [] room_1.cells room_1.slots (lw_Z below #[Value.ref b] s) (F0 m pc ls [.int 1]) := by
  intro T hT X
  obtain ⟨fs, hret, hrun, hended, hW, hframe⟩ := X.leave (v := some (.int 1)) (hlocks := hlocks) (fun h => by rw [hr] at h; cases h)
  have hmeth' : T.vm.method? m = some meth := X.method'
  refine ⟨T.setFrames fs, ?_, .returned (some (.int 1)), hrun, hended, rfl, ⟨_, rfl⟩, hW, hframe⟩
  jvm_step X.here [X.here.top, hx, hb, hdg, hmeth', hr, ret, narrow_b1]
  (try refine ⟨rfl, ?_⟩); (try refine ⟨rfl, ?_⟩)
  first | (intro acts; rw [hret _ acts rfl rfl rfl]) | rw [hret _ _ rfl rfl rfl]
  exact Steps.refl _
/-- what holds at the law's entry: the machine, the code, the tables' words (any of lw_tbl by 'hts w (by decide +kernel)'), the script of L ints xs at the cell b, what the Statement gives of the start (any of its parts by flat_of_before) -/
def lw_At (p : Program) (s : State) (m : MethodId) (meth : Method) (c : Code) (b L : Nat) (xs : Nat → Int32) : Prop :=
  p.tables.exec = Jvm.exec ∧ c.code = code ∧ meth.sig.returnType = ret ∧ c.maxLocals = 8 ∧ s.vm.findClass R_law = some m.cls ∧ (∀ w ∈ lw_tbl, w.before #[Value.ref b] s = true) ∧ va_X b L xs s s.heap ∧ b < s.heap.size ∧ meth.locks = false ∧ (Jvm.Cond.and given_1 narrow_1).before #[Value.ref b] s = true
/-- the room that the statement gives is drawn anew at each turn: these are all that is used of it -/
theorem mz_cells : 20000 ≤ room_1.cells := by decide
theorem mz_slots : 1000000 ≤ room_1.slots := by decide
theorem mz_frames : 100 ≤ room_1.frames := by decide
theorem mz_locals : 100 * 100 ≤ room_1.locals := by decide
def mz_run (L : Nat) (xs : Nat → Int32) : Prop := ∃ (n d : Nat) (h' : mq_H), d ≤ 100 ∧ mq_ex n d mp_law 0 (mq_en [.ref mr_X] 8) [] (mz_h0 L xs) = some (some (some (.int 1)), h') ∧ h'.1 ≤ 20000 ∧ h'.2.1 ≤ 1000000
set_option maxHeartbeats 4000000 in
theorem mz_whole {p : Program} {e : Env} {s : State} {m : MethodId} {below : List Frame} {meth : Method} {c : Code} (l : Launch) (hl : l.stackTraces = false) {b L : Nat} {xs : Nat → Int32} (hr : mz_run L xs) (C0 : lw_At p s m meth c b L xs) : W p l e room_1 s m #[Value.ref b] below meth c s.heap [] 0 0 (lw_Z below #[Value.ref b] s) (entryFrame m ([Value.ref b] : List Value).toArray 8) := by
  obtain ⟨hx, hb, hret, hml, hown, hts, hX, hbl, hlocks, hgv⟩ := C0
  obtain ⟨n, d, h', hd, he, hc, hw⟩ := hr
  obtain ⟨D, cA, xa, hE, hE2, hxa⟩ := mz_start hts hX hbl hgv
  obtain ⟨q1, q2, q3, q4⟩ := mz_lawn
  have hv : ([Value.ref b] : List Value) = ([.ref mr_X] : List Value).map (mr_v s.heap.size xa) := by
    show [Value.ref b] = [Value.ref (mr_a s.heap.size xa mr_X)]
    have h9 := mr_a_hi (B := s.heap.size) (xa := xa) 0
    rw [Nat.add_zero] at h9
    rw [h9, hxa]
  have hn : h'.1 < mr_X := Nat.lt_of_le_of_lt hc (by decide)
  have hW : mr_W D cA s.heap.size xa (mz_X L xs) s s.heap [] (mz_h0 L xs) := by
    refine ⟨rfl, Nat.le_refl _, fun k hk => absurd hk (Nat.not_lt_zero k), fun k _ hk => ?_, fun k _ => rfl, va_S.rf⟩
    show mz_X L xs k = mq_dead
    unfold mz_X
    rw [if_neg (by omega), if_neg (by omega), if_neg (by omega)]
  rw [lg_entry_eq]
  have hent := mr_entry (B := s.heap.size) (xa := xa) (as := [.ref mr_X]) (n := 8) (by decide)
  rw [← hv] at hent
  have h9 := ms_simL hl n d 0 (mq_en [.ref mr_X] 8) [] (mz_h0 L xs) (some (.int 1)) h' he p e room_1 s m #[Value.ref b] below meth c s.heap [] (lw_Z below #[Value.ref b] s) _ D cA s.heap.size xa (mz_X L xs) 0 0 hx (by rw [q2]; exact hb) (by rw [q3]; exact hml) (by rw [q1]; exact hown) (fun w hw => hts w (mg_lw hw)) hE hE2 (Nat.le_trans hd mz_frames) (Nat.le_trans (Nat.mul_le_mul_left 100 hd) mz_locals) hW (by rw [q3]; exact hent) (Nat.le_refl _) (Nat.le_refl _) hn (Nat.le_trans (Nat.sub_le _ _) (Nat.le_trans hc mz_cells)) (Nat.le_trans (Nat.sub_le _ _) (Nat.le_trans hw mz_slots)) ?_
  · exact h9
  · intro pc' ls' st' lr' H' locs' h0 hW'
    unfold mq_st at h0
    split at h0
    next i k hi =>
      obtain ⟨hd9, hln⟩ := md_at hi
      rcases mv_plain h0 with ⟨idx, -, hc⟩ | ⟨idx, -, hc⟩ | ⟨idx, -, hc⟩ | ⟨rfl, x, ty, rfl, hz, hty, hn9⟩ | ⟨rfl, x, rfl, hz, hty⟩ | ⟨rfl, hra, hz⟩ | ⟨rfl, rfl, hz, hty⟩ | ⟨idx, w, rfl, hl, rfl, hz⟩
      · exact absurd hc mv_noend
      · exact absurd hc mv_noend
      · exact absurd hc mv_noend
      · cases hz
        obtain rfl := mr_ln hln (fun _ _ _ _ h => by cases h)
        rw [q2] at hd9
        exact va_forget (fun q hq => hW'.2.2.2.2.2.2.2 q hq) (W.widen (Nat.le_trans (Nat.sub_le _ _) (Nat.le_trans hc mz_cells)) (Nat.le_trans (Nat.sub_le _ _) (Nat.le_trans hw mz_slots)) (lw_ret hx hb hret hlocks hd9))
      · cases hz
      · rcases hz with ⟨x, rfl, hz⟩ | ⟨rfl, hz⟩ <;> cases hz
      · cases hz
      · cases hz
    next => cases h0
