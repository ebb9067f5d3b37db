/-! THE MODEL'S HEAP IN THE MACHINE'S -/
/-- what the tables say of a class with objects -/
theorem mk_c {ci : Nat} (h : ci < 11) : Cond.instantiable (mk_nm.getD ci "") (mk_N ci) ∈ mg_tbl ∧ Cond.initialized (mk_nm.getD ci "") ∈ mg_tbl ∧ (mp_df ci).length = mk_N ci ∧
    ∀ k, k < mk_N ci → u_lay (mk_nm.getD ci "") (mk_T ci) k ∈ mg_tbl ∧ parseFieldDescriptor (mk_T ci k).2.2.1 = some (mp_ft ci k) ∧ (mk_T ci k).1 = mk_nm.getD ci "" ∧ defaultValue (mp_ft ci k) = (mp_df ci).getD k .null ∧ (mk_T ci k).2.2.2 = (mp_fnT.getD ci []).getD k true ∧ ∀ j, j < mk_N ci → j ≠ k → (mk_T ci k).2.1 ≠ (mk_T ci j).2.1 := by
  have h0 := mk_okc_all ci h
  unfold mk_okc at h0
  simp only [Bool.and_eq_true, decide_eq_true_eq] at h0
  obtain ⟨⟨⟨h1, h2⟩, h3⟩, h4⟩ := h0
  refine ⟨mg_of h1, mg_of h2, h3, fun k hk => ?_⟩
  have h5 := List.all_eq_true.mp h4 k (List.mem_range.mpr hk)
  simp only [Bool.and_eq_true, decide_eq_true_eq] at h5
  obtain ⟨⟨⟨⟨⟨a1, a2⟩, a3⟩, a4⟩, a5⟩, a6⟩ := h5
  refine ⟨mg_of a1, a2, a3, a4, a5, fun j hj hjk => ?_⟩
  have h6 := List.all_eq_true.mp a6 j (List.mem_range.mpr hj)
  simp only [Bool.or_eq_true, decide_eq_true_eq] at h6
  exact h6.resolve_left hjk
theorem mk_uws {ci : Nat} (h : ci < 11) : ∀ w ∈ u_ws (mk_nm.getD ci "") (mk_T ci) (mk_N ci), w ∈ mg_tbl := by
  intro w hw
  obtain ⟨k, hk, rfl⟩ := List.mem_map.mp hw
  exact ((mk_c h).2.2.2 k (List.mem_range.mp hk)).1
theorem mk_fl {mi idx ci k : Nat} (h : mp_fl mi idx = some (ci, k)) : Cond.fieldLink (mp_cn.getD (mp_of mi).1 "") idx (mk_fln ci k).1 (mk_fln ci k).2.1 (mk_fln ci k).2.2 ∈ mg_tbl ∧ ((ci = 11 ∧ k < 2) ∨ (ci < 11 ∧ k < mk_N ci)) := by
  have h0 := mk_okf_all _ (mk_oc_lt mi)
  unfold mk_okf at h0
  have h1 := List.all_eq_true.mp h0 _ (mq_fd_mem h)
  simp only [Bool.and_eq_true, Bool.or_eq_true, decide_eq_true_eq] at h1
  exact ⟨mg_of h1.1, h1.2⟩
theorem mk_nw {mi idx ci w : Nat} (h : mp_nw mi idx = some (ci, w)) : Cond.classLink (mp_cn.getD (mp_of mi).1 "") idx (if ci = 50 then "java/util/NoSuchElementException" else mk_nm.getD ci "") ∈ mg_tbl ∧ (ci = 50 ∨ (ci < 11 ∧ w = mk_N ci)) := by
  have h0 := mk_okn_all _ (mk_oc_lt mi)
  unfold mk_okn at h0
  have h1 := List.all_eq_true.mp h0 _ (mq_fd_mem h)
  simp only [Bool.and_eq_true, Bool.or_eq_true, decide_eq_true_eq] at h1
  exact ⟨mg_of h1.1, h1.2⟩
theorem mk_ki {mi idx : Nat} {v : Int32} (h : mp_ki mi idx = some v) : Cond.constant (mp_cn.getD (mp_of mi).1 "") idx v ∈ mg_tbl := by
  have h0 := mk_okk_all _ (mk_oc_lt mi)
  unfold mk_okk at h0
  simp only [Bool.and_eq_true] at h0
  exact mg_of (List.all_eq_true.mp h0.1 _ (mq_fd_mem h))
theorem mk_kl {mi idx : Nat} {v : Int64} (h : mp_kl mi idx = some v) : Cond.constantLong (mp_cn.getD (mp_of mi).1 "") idx v ∈ mg_tbl := by
  have h0 := mk_okk_all _ (mk_oc_lt mi)
  unfold mk_okk at h0
  simp only [Bool.and_eq_true] at h0
  exact mg_of (List.all_eq_true.mp h0.2 _ (mq_fd_mem h))
/-- an array's contents, its references moved -/
def mr_arr (B : Nat) (xa : Nat → Nat) (a : vp_A) : vp_A := (a.1, match a.2 with
  | .inr (.inr (.inr (.inr f))) => .inr (.inr (.inr (.inr (fun j => (f j).map (mr_a B xa)))))
  | x => x)
/-- a cell of the model, at its place in the heap -/
def mr_at (D : va_G) (cA : Nat → ClassId) (B : Nat) (xa : Nat → Nat) (a : Nat) (x : mq_E) (H : Heap) : Prop := match x with
  | .inl (k, v) => k = 99 ∨ (k < 5 ∧ H[a]? = some (vp_cell (cA k) (mr_arr B xa v)))
  | .inr (ci, fs) => ci < 11 ∧ fs.length = mk_N ci ∧ t_OB a (D.1 ci) (mk_N ci) (D.2 ci) H (vp_V (fs.map (mr_v B xa)))
theorem mr_at.kept {D : va_G} {cA : Nat → ClassId} {B : Nat} {xa : Nat → Nat} {a : Nat} {x : mq_E} {H H1 : Heap} (h : mr_at D cA B xa a x H) (hq : H1[a]? = H[a]?) : mr_at D cA B xa a x H1 := by
  unfold mr_at at h ⊢
  split at h
  · rcases h with h | ⟨h, h2⟩
    · exact Or.inl h
    · exact Or.inr ⟨h, by rw [hq]; exact h2⟩
  · exact ⟨h.1, h.2.1, h.2.2.kept hq⟩
/-- what was there before: the script, the texts -/
def mr_Xf (B : Nat) (xa : Nat → Nat) (X : Nat → mq_E) (U : State) : Prop := ∀ j : Nat, xa j < B ∧ (match X (mr_X + j) with
  | .inl (k, n, .inl g) => k = 99 ∨ (k = 5 ∧ va_X (xa j) n g U U.heap) ∨ (k = 6 ∧ va_T .byte (xa j) n (fun i => .int (g i)) (fun q => B ≤ q) U U.heap)
  | .inr (c, fs) => c = 11 ∧ ∃ v, fs = [.ref v, .int 0] ∧ va_O "java/lang/String" (xa j) (fun q => B ≤ q) U U.heap ∧ va_OF "java/lang/String" "coder" "B" (.int 0) (xa j) (fun q => B ≤ q) U U.heap ∧ va_OF "java/lang/String" "value" "[B" (mr_v B xa (.ref v)) (xa j) (fun q => B ≤ q) U U.heap
  | _ => False)
/-- the whole heap -/
def mr_W (D : va_G) (cA : Nat → ClassId) (B : Nat) (xa : Nat → Nat) (X : Nat → mq_E) (s : State) (H : Heap) (locs : List Loc) (h : mq_H) : Prop :=
  H.size = B + h.1 ∧ B ≤ s.heap.size ∧ (∀ k, k < h.1 → mr_at D cA B xa (B + k) (h.2.2 k) H) ∧ (∀ k, h.1 ≤ k → k < mr_X → h.2.2 k = mq_dead) ∧ (∀ k, mr_X ≤ k → h.2.2 k = X k) ∧ va_S (fun q => B ≤ q) s.heap H locs
def mr_ty (cA : Nat → ClassId) : List (ClassId × FieldType) := [(cA 0, .int), (cA 1, .boolean), (cA 2, .char), (cA 3, .long), (cA 4, .object "ShareTable$Table")]
section MH
variable {D : va_G} {cA : Nat → ClassId} {B : Nat} {xa : Nat → Nat} {X : Nat → mq_E} {s : State} {H : Heap} {locs : List Loc} {h : mq_H}
theorem mr_a_lo {k : Nat} (hk : k < mr_X) : mr_a B xa k = B + k := if_pos hk
theorem mr_a_hi (j : Nat) : mr_a B xa (mr_X + j) = xa j := by
  unfold mr_a
  rw [if_neg (by omega), Nat.add_sub_cancel_left]
theorem mr_W.obj (hW : mr_W D cA B xa X s H locs h) (hn : h.1 < mr_X) {a ci : Nat} {fs : List Value} (e : h.2.2 a = .inr (ci, fs)) :
    (a < h.1 ∧ mr_a B xa a = B + a ∧ ci < 11 ∧ fs.length = mk_N ci ∧ t_OB (B + a) (D.1 ci) (mk_N ci) (D.2 ci) H (vp_V (fs.map (mr_v B xa)))) ∨ (∃ j, a = mr_X + j ∧ X (mr_X + j) = .inr (ci, fs)) := by
  by_cases h1 : a < h.1
  · left
    have h2 := hW.2.2.1 a h1
    rw [e] at h2
    exact ⟨h1, mr_a_lo (by omega), h2⟩
  · by_cases h2 : a < mr_X
    · have := hW.2.2.2.1 a (by omega) h2
      rw [e] at this
      cases this
    · right
      have e9 : mr_X + (a - mr_X) = a := by omega
      refine ⟨a - mr_X, e9.symm, ?_⟩
      rw [e9, ← e, hW.2.2.2.2.1 a (by omega)]
theorem mr_W.arr (hW : mr_W D cA B xa X s H locs h) (hn : h.1 < mr_X) {a k : Nat} {v : vp_A} (e : h.2.2 a = .inl (k, v)) (hk : ¬ k = 99) :
    (a < h.1 ∧ mr_a B xa a = B + a ∧ k < 5 ∧ H[B + a]? = some (vp_cell (cA k) (mr_arr B xa v))) ∨ (∃ j, a = mr_X + j ∧ X (mr_X + j) = .inl (k, v)) := by
  by_cases h1 : a < h.1
  · left
    have h2 := hW.2.2.1 a h1
    rw [e] at h2
    exact ⟨h1, mr_a_lo (by omega), h2.resolve_left hk⟩
  · by_cases h2 : a < mr_X
    · have := hW.2.2.2.1 a (by omega) h2
      rw [e] at this
      cases this
      exact absurd rfl hk
    · right
      have e9 : mr_X + (a - mr_X) = a := by omega
      refine ⟨a - mr_X, e9.symm, ?_⟩
      rw [e9, ← e, hW.2.2.2.2.1 a (by omega)]
/-- a cell is written -/
theorem mr_W.put (hW : mr_W D cA B xa X s H locs h) (hn : h.1 < mr_X) {a i : Nat} (ha : a < h.1) {x : mq_E} {H1 : Heap} (z : H1.size = H.size) (oq : ∀ q : Nat, q ≠ B + a → H1[q]? = H[q]?) (hx : mr_at D cA B xa (B + a) x H1) : mr_W D cA B xa X s H1 (locs ++ [⟨B + a, i⟩]) (mq_wr h a x) := by
  obtain ⟨h1, h2, h3, h4, h5, h6⟩ := hW
  refine ⟨by rw [z]; exact h1, h2, fun k hk => ?_, fun k hk hk2 => ?_, fun k hk => ?_, h6.put z oq (Nat.le_add_right B a)⟩
  · show mr_at D cA B xa (B + k) (mq_up h.2.2 a x k) H1
    unfold mq_up
    by_cases e : k = a
    · rw [if_pos e, e]; exact hx
    · rw [if_neg e]
      exact (h3 k hk).kept (oq _ (by omega))
  · show mq_up h.2.2 a x k = mq_dead
    unfold mq_up
    rw [if_neg (by have : h.1 ≤ k := hk; omega)]
    exact h4 k hk hk2
  · show mq_up h.2.2 a x k = X k
    unfold mq_up
    rw [if_neg (by omega)]
    exact h5 k hk
/-- a cell is made -/
theorem mr_W.mk (hW : mr_W D cA B xa X s H locs h) (hn : h.1 < mr_X) {x : mq_E} {w : Nat} {H1 : Heap} (z : H1.size = H.size + 1) (oq : ∀ q : Nat, q < H.size → H1[q]? = H[q]?) (hx : mr_at D cA B xa (B + h.1) x H1) : mr_W D cA B xa X s H1 locs (mq_mk h w x) := by
  obtain ⟨h1, h2, h3, h4, h5, h6⟩ := hW
  refine ⟨by rw [z, h1]; show B + h.1 + 1 = B + (h.1 + 1); omega, h2, fun k hk => ?_, fun k hk hk2 => ?_, fun k hk => ?_, ⟨by rw [z]; exact Nat.le_trans h6.1 (by omega), fun q q1 q2 => by rw [oq q (Nat.lt_of_lt_of_le q1 h6.1)]; exact h6.2.1 q q1 q2, h6.2.2⟩⟩
  · show mr_at D cA B xa (B + k) (mq_up h.2.2 h.1 x k) H1
    unfold mq_up
    by_cases e : k = h.1
    · rw [if_pos e, e]; exact hx
    · rw [if_neg e]
      have hk' : k < h.1 + 1 := hk
      exact (h3 k (by omega)).kept (oq _ (by omega))
  · show mq_up h.2.2 h.1 x k = mq_dead
    unfold mq_up
    have hk' : h.1 + 1 ≤ k := hk
    rw [if_neg (by omega)]
    exact h4 k (by omega) hk2
  · show mq_up h.2.2 h.1 x k = X k
    unfold mq_up
    rw [if_neg (by omega)]
    exact h5 k hk
/-- what was there before is still there -/
theorem mr_W.old (hW : mr_W D cA B xa X s H locs h) {q : Nat} (hq : q < B) : H[q]? = s.heap[q]? := hW.2.2.2.2.2.2.1 q (Nat.lt_of_lt_of_le hq hW.2.1) (by omega)
theorem mr_okv {ty : FieldType} {v : Value} (h : mq_okv ty v = true) : narrow ty (mr_v B xa v) = mr_v B xa v ∧ fits ty (mr_v B xa v) = true := by
  unfold mq_okv at h
  simp only [Bool.and_eq_true, decide_eq_true_eq] at h
  cases v with
  | ref k =>
    refine ⟨?_, ?_⟩
    · cases ty <;> rfl
    · have := h.2
      cases ty <;> first | rfl | (simp [fits] at this)
  | _ => exact h
theorem mr_in {i : Int32} {n : Nat} (h : mq_in i n = true) : vp_in i n := by
  unfold mq_in at h
  simp only [Bool.and_eq_true, decide_eq_true_eq] at h
  rintro (q | q)
  · exact h.1 q
  · omega
end MH
