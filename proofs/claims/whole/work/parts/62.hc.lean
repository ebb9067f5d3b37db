/-! THE FIXED CELLS (written by wip/gen/gen8.py): class 0 to 18 and 22, reference 23 to 44, law 45; others in c -/
def zu {α : Type} (f : Nat → α) (k : Nat) (x : α) : Nat → α := fun j => if j = k then x else f j
theorem zu_eq {α : Type} (f : Nat → α) (k : Nat) (x : α) : zu f k x k = x := if_pos rfl
theorem zu_ne {α : Type} (f : Nat → α) (k j : Nat) (x : α) (h : j ≠ k) : zu f k x j = f j := if_neg h
theorem zu_zu {α : Type} (f : Nat → α) (k : Nat) (x y : α) : zu (zu f k x) k y = zu f k y := by
  funext j
  by_cases q : j = k
  · subst q; rw [zu_eq, zu_eq]
  · rw [zu_ne _ _ _ _ q, zu_ne _ _ _ _ q, zu_ne _ _ _ _ q]
theorem zu_comm {α : Type} (f : Nat → α) (k j : Nat) (x y : α) (h : j < k) : zu (zu f k x) j y = zu (zu f j y) k x := by
  funext i
  by_cases q : i = j
  · subst q; rw [zu_eq, zu_ne _ _ _ _ (by omega), zu_eq]
  · by_cases q2 : i = k
    · subst q2; rw [zu_ne _ _ _ _ q, zu_eq, zu_eq]
    · rw [zu_ne _ _ _ _ q, zu_ne _ _ _ _ q2, zu_ne _ _ _ _ q2, zu_ne _ _ _ _ q]
theorem zu_self {α : Type} (f : Nat → α) (k : Nat) : zu f k (f k) = f := by
  funext j
  by_cases q : j = k
  · subst q; rw [zu_eq]
  · rw [zu_ne _ _ _ _ q]
theorem zu_app {α : Type} (f : Nat → α) (k j : Nat) (x : α) : zu f k x j = if j = k then x else f j := rfl
theorem upd_zu (f : Nat → Int32) (k : Nat) (x : Int32) : upd f k x = zu f k x := rfl
theorem updL_zu (f : Nat → Int64) (k : Nat) (x : Int64) : vp_updL f k x = zu f k x := rfl
theorem updQ_zu (f : Nat → Option Nat) (k : Nat) (x : Option Nat) : va_up f k x = zu f k x := rfl
/-- what a fixed cell is: 1 ints, 2 booleans, 3 chars, 4 longs, 5 tables, 6 an object; 0: not fixed -/
def hs : Nat → Nat
  | 0 => 6
  | 1 => 6
  | 2 => 3
  | 3 => 6
  | 4 => 2
  | 5 => 6
  | 6 => 6
  | 7 => 1
  | 8 => 1
  | 9 => 1
  | 10 => 6
  | 11 => 1
  | 12 => 1
  | 13 => 1
  | 14 => 4
  | 15 => 4
  | 16 => 6
  | 17 => 5
  | 18 => 5
  | 22 => 5
  | 23 => 6
  | 24 => 1
  | 25 => 1
  | 26 => 1
  | 27 => 4
  | 28 => 4
  | 29 => 1
  | 30 => 2
  | 31 => 1
  | 32 => 1
  | 33 => 1
  | 34 => 1
  | 35 => 1
  | 36 => 2
  | 37 => 4
  | 38 => 1
  | 39 => 1
  | 40 => 1
  | 41 => 1
  | 42 => 4
  | 43 => 4
  | 44 => 2
  | 45 => 4
  | _ => 0
def hl : Nat → Nat
  | 2 => 1000
  | 4 => 36
  | 7 => 1000
  | 8 => 1000
  | 9 => 64
  | 11 => 144
  | 12 => 6
  | 13 => 36
  | 14 => 6
  | 15 => 6
  | 17 => 12
  | 18 => 12
  | 22 => 4
  | 24 => 1000
  | 25 => 1002
  | 26 => 1002
  | 27 => 1002
  | 28 => 15
  | 29 => 4256
  | 30 => 36
  | 31 => 1100
  | 32 => 1100
  | 33 => 5
  | 34 => 1100
  | 35 => 144
  | 36 => 726
  | 37 => 36
  | 38 => 12000
  | 39 => 6
  | 40 => 6
  | 41 => 6
  | 42 => 6
  | 43 => 6
  | 44 => 4
  | 45 => 1
  | _ => 0
def hcl : Nat → Nat
  | 0 => 9
  | 1 => 8
  | 3 => 7
  | 5 => 5
  | 6 => 1
  | 10 => 0
  | 16 => 3
  | 23 => 10
  | _ => 0
def hfs : Nat → List (Nat × Nat)
  | 0 => [(0, 1), (0, 3), (0, 5), (0, 14), (0, 15), (0, 16), (0, 22), (1, 0)]
  | 1 => [(0, 2), (1, 0), (1, 0), (1, 0), (1, 0), (1, 0)]
  | 3 => [(0, 1), (0, 4), (1, 0), (1, 0)]
  | 5 => [(0, 1), (0, 6), (0, 10), (1, 0)]
  | 6 => [(0, 7), (0, 8), (0, 9), (1, 0)]
  | 10 => [(0, 11), (0, 12), (0, 13), (1, 0), (3, 0)]
  | 16 => [(0, 17), (0, 18), (1, 0), (1, 0), (3, 0)]
  | 23 => [(1, 0), (0, 24), (1, 0), (1, 0), (0, 25), (0, 26), (0, 27), (1, 0), (1, 0), (0, 28), (0, 29), (1, 0), (1, 0), (0, 30), (0, 31), (0, 32), (1, 0), (0, 33), (0, 34), (1, 0), (0, 35), (1, 0), (1, 0), (1, 0), (1, 0), (0, 36), (0, 37), (1, 0), (0, 38), (0, 39), (2, 0), (2, 0), (0, 40), (0, 41), (1, 0), (1, 0), (1, 0), (0, 42), (0, 43), (0, 44)]
  | _ => []
def hfv (I : Nat → Int32) (J : Nat → Int64) (R : Nat → Value) : Nat → List (Nat × Nat) → List Value
  | _, [] => []
  | key, x :: t => (match x.1 with
    | 0 => .ref x.2
    | 1 => .int (I key)
    | 2 => .long (J key)
    | _ => R key) :: hfv I J R (key + 1) t
def HC (c : Nat → mq_E) (I : Nat → Int32) (J : Nat → Int64) (A : Nat → Nat → Int32) (B : Nat → Nat → Int64) (R : Nat → Value) (Q : Nat → Nat → Option Nat) : Nat → mq_E := fun b =>
  if hs b = 0 then c b else if hs b = 6 then .inr (hcl b, hfv I J R (50 * b) (hfs b)) else if hs b = 5 then .inl (4, hl b, .inr (.inr (.inr (.inr (Q b))))) else if hs b = 4 then .inl (3, hl b, .inr (.inl (B b))) else .inl (hs b - 1, hl b, .inl (A b))
def hp (n s : Nat) (c : Nat → mq_E) (I : Nat → Int32) (J : Nat → Int64) (A : Nat → Nat → Int32) (B : Nat → Nat → Int64) (R : Nat → Value) (Q : Nat → Nat → Option Nat) : mq_H := (n, s, HC c I J A B R Q)
theorem hfs_len (b : Nat) : (hfs b).length ≤ 40 := by
  unfold hfs
  split <;> decide
theorem hs_big (b : Nat) (h : 46 ≤ b) : hs b = 0 := by
  obtain ⟨k, rfl⟩ : ∃ k, b = k + 46 := ⟨b - 46, by omega⟩
  rfl
section HPL
variable (n s : Nat) (c : Nat → mq_E) (I : Nat → Int32) (J : Nat → Int64) (A : Nat → Nat → Int32) (B : Nat → Nat → Int64) (R : Nat → Value) (Q : Nat → Nat → Option Nat)
theorem hp_1 : (hp n s c I J A B R Q).1 = n := rfl
theorem hp_21 : (hp n s c I J A B R Q).2.1 = s := rfl
theorem hfv_neI (key' : Nat) (x : Int32) : ∀ (t : List (Nat × Nat)) (key : Nat), (∀ j, j < t.length → key + j ≠ key') → hfv (zu I key' x) J R key t = hfv I J R key t
  | [], _, _ => rfl
  | y :: t, key, h => by
    simp only [hfv]
    rw [hfv_neI key' x t (key + 1) (fun j hj => by have := h (j + 1) (by simp; omega); omega), zu_ne I key' key x (by have := h 0 (by simp); omega)]
theorem hfv_neJ (key' : Nat) (x : Int64) : ∀ (t : List (Nat × Nat)) (key : Nat), (∀ j, j < t.length → key + j ≠ key') → hfv I (zu J key' x) R key t = hfv I J R key t
  | [], _, _ => rfl
  | y :: t, key, h => by
    simp only [hfv]
    rw [hfv_neJ key' x t (key + 1) (fun j hj => by have := h (j + 1) (by simp; omega); omega), zu_ne J key' key x (by have := h 0 (by simp); omega)]
theorem hfv_neR (key' : Nat) (x : Value) : ∀ (t : List (Nat × Nat)) (key : Nat), (∀ j, j < t.length → key + j ≠ key') → hfv I J (zu R key' x) key t = hfv I J R key t
  | [], _, _ => rfl
  | y :: t, key, h => by
    simp only [hfv]
    rw [hfv_neR key' x t (key + 1) (fun j hj => by have := h (j + 1) (by simp; omega); omega), zu_ne R key' key x (by have := h 0 (by simp); omega)]
theorem hfv_setI (x : Int32) (z : Nat) : ∀ (t : List (Nat × Nat)) (key k : Nat), t[k]? = some (1, z) → (hfv I J R key t).set k (.int x) = hfv (zu I (key + k) x) J R key t
  | [], _, _, h => by simp at h
  | y :: t, key, 0, h => by
    have e : y = (1, z) := by simpa using h
    subst e
    simp only [hfv, List.set_cons_zero, Nat.add_zero, zu_eq]
    rw [hfv_neI I J R key x t (key + 1) (fun j _ => by omega)]
  | y :: t, key, k + 1, h => by
    simp only [hfv, List.set_cons_succ]
    rw [hfv_setI x z t (key + 1) k (by simpa using h), show key + 1 + k = key + (k + 1) by omega, zu_ne I (key + (k + 1)) key x (by omega)]
theorem hfv_setJ (x : Int64) (z : Nat) : ∀ (t : List (Nat × Nat)) (key k : Nat), t[k]? = some (2, z) → (hfv I J R key t).set k (.long x) = hfv I (zu J (key + k) x) R key t
  | [], _, _, h => by simp at h
  | y :: t, key, 0, h => by
    have e : y = (2, z) := by simpa using h
    subst e
    simp only [hfv, List.set_cons_zero, Nat.add_zero, zu_eq]
    rw [hfv_neJ I J R key x t (key + 1) (fun j _ => by omega)]
  | y :: t, key, k + 1, h => by
    simp only [hfv, List.set_cons_succ]
    rw [hfv_setJ x z t (key + 1) k (by simpa using h), show key + 1 + k = key + (k + 1) by omega, zu_ne J (key + (k + 1)) key x (by omega)]
theorem hfv_setR (x : Value) (z : Nat) : ∀ (t : List (Nat × Nat)) (key k : Nat), t[k]? = some (3, z) → (hfv I J R key t).set k x = hfv I J (zu R (key + k) x) key t
  | [], _, _, h => by simp at h
  | y :: t, key, 0, h => by
    have e : y = (3, z) := by simpa using h
    subst e
    simp only [hfv, List.set_cons_zero, Nat.add_zero, zu_eq]
    rw [hfv_neR I J R key x t (key + 1) (fun j _ => by omega)]
  | y :: t, key, k + 1, h => by
    simp only [hfv, List.set_cons_succ]
    rw [hfv_setR x z t (key + 1) k (by simpa using h), show key + 1 + k = key + (k + 1) by omega, zu_ne R (key + (k + 1)) key x (by omega)]
theorem hp_at (b : Nat) : (hp n s c I J A B R Q).2.2 b = HC c I J A B R Q b := rfl
theorem hp_c (b : Nat) (h : hs b = 0) : (hp n s c I J A B R Q).2.2 b = c b := by rw [hp_at]; unfold HC; rw [if_pos h]
theorem hp_wc (b : Nat) (e : mq_E) (h : hs b = 0) : mq_wr (hp n s c I J A B R Q) b e = hp n s (mq_up c b e) I J A B R Q := by
  unfold mq_wr hp
  refine congrArg (fun f => (n, s, f)) ?_
  funext k
  show mq_up (HC c I J A B R Q) b e k = HC (mq_up c b e) I J A B R Q k
  by_cases q : k = b
  · subst q
    unfold HC
    rw [up_eq, if_pos h, up_eq]
  · rw [up_ne _ _ _ _ q]
    unfold HC
    rw [up_ne _ _ _ _ q]
theorem hp_mk (w : Nat) (e : mq_E) (h : hs n = 0) : mq_mk (hp n s c I J A B R Q) w e = hp (n + 1) (s + w) (mq_up c n e) I J A B R Q := by
  have := hp_wc n s c I J A B R Q n e h
  have h2 := congrArg (fun x => x.2.2) this
  show (n + 1, s + w, mq_up (HC c I J A B R Q) n e) = (n + 1, s + w, HC (mq_up c n e) I J A B R Q)
  exact congrArg (fun f => (n + 1, s + w, f)) h2
theorem hp_wA (b : Nat) (g : Nat → Int32) (h : hs b = 1 ∨ hs b = 2 ∨ hs b = 3) : mq_wr (hp n s c I J A B R Q) b (.inl (hs b - 1, hl b, .inl g)) = hp n s c I J (zu A b g) B R Q := by
  unfold mq_wr hp
  refine congrArg (fun f => (n, s, f)) ?_
  funext k
  show mq_up (HC c I J A B R Q) b _ k = HC c I J (zu A b g) B R Q k
  by_cases q : k = b
  · subst q
    unfold HC
    rw [up_eq, if_neg (by omega), if_neg (by omega), if_neg (by omega), if_neg (by omega), zu_eq]
  · rw [up_ne _ _ _ _ q]
    unfold HC
    rw [zu_ne _ _ _ _ q]
theorem hp_wB (b : Nat) (g : Nat → Int64) (h : hs b = 4) : mq_wr (hp n s c I J A B R Q) b (.inl (3, hl b, .inr (.inl g))) = hp n s c I J A (zu B b g) R Q := by
  unfold mq_wr hp
  refine congrArg (fun f => (n, s, f)) ?_
  funext k
  show mq_up (HC c I J A B R Q) b _ k = HC c I J A (zu B b g) R Q k
  by_cases q : k = b
  · subst q
    unfold HC
    rw [up_eq, if_neg (by omega), if_neg (by omega), if_neg (by omega), if_pos h, zu_eq]
  · rw [up_ne _ _ _ _ q]
    unfold HC
    rw [zu_ne _ _ _ _ q]
theorem hp_wQ (b : Nat) (g : Nat → Option Nat) (h : hs b = 5) : mq_wr (hp n s c I J A B R Q) b (.inl (4, hl b, .inr (.inr (.inr (.inr g))))) = hp n s c I J A B R (zu Q b g) := by
  unfold mq_wr hp
  refine congrArg (fun f => (n, s, f)) ?_
  funext k
  show mq_up (HC c I J A B R Q) b _ k = HC c I J A B R (zu Q b g) k
  by_cases q : k = b
  · subst q
    unfold HC
    rw [up_eq, if_neg (by omega), if_neg (by omega), if_pos h, zu_eq]
  · rw [up_ne _ _ _ _ q]
    unfold HC
    rw [zu_ne _ _ _ _ q]
theorem hp_mfs (b : Nat) (h : hs b = 6) : mfs (hp n s c I J A B R Q) b = hfv I J R (50 * b) (hfs b) := by
  unfold mfs
  rw [hp_at]
  unfold HC
  rw [if_neg (by omega), if_pos h]
theorem hp_wI (b k z : Nat) (x : Int32) (h : hs b = 6) (hk : (hfs b)[k]? = some (1, z)) : mq_wr (hp n s c I J A B R Q) b (.inr (hcl b, (mfs (hp n s c I J A B R Q) b).set k (.int x))) = hp n s c (zu I (50 * b + k) x) J A B R Q := by
  rw [hp_mfs n s c I J A B R Q b h, hfv_setI I J R x z (hfs b) (50 * b) k hk]
  have hk2 : k < (hfs b).length := by
    rcases Nat.lt_or_ge k (hfs b).length with q | q
    · exact q
    · rw [List.getElem?_eq_none q] at hk; cases hk
  have hk3 := hfs_len b
  unfold mq_wr hp
  refine congrArg (fun f => (n, s, f)) ?_
  funext i
  show mq_up (HC c I J A B R Q) b _ i = HC c (zu I (50 * b + k) x) J A B R Q i
  by_cases q : i = b
  · subst q
    unfold HC
    rw [up_eq, if_neg (by omega), if_pos h]
  · rw [up_ne _ _ _ _ q]
    unfold HC
    rw [hfv_neI I J R (50 * b + k) x (hfs i) (50 * i) (fun j hj => by have := hfs_len i; omega)]
theorem hp_wJ (b k z : Nat) (x : Int64) (h : hs b = 6) (hk : (hfs b)[k]? = some (2, z)) : mq_wr (hp n s c I J A B R Q) b (.inr (hcl b, (mfs (hp n s c I J A B R Q) b).set k (.long x))) = hp n s c I (zu J (50 * b + k) x) A B R Q := by
  rw [hp_mfs n s c I J A B R Q b h, hfv_setJ I J R x z (hfs b) (50 * b) k hk]
  have hk2 : k < (hfs b).length := by
    rcases Nat.lt_or_ge k (hfs b).length with q | q
    · exact q
    · rw [List.getElem?_eq_none q] at hk; cases hk
  have hk3 := hfs_len b
  unfold mq_wr hp
  refine congrArg (fun f => (n, s, f)) ?_
  funext i
  show mq_up (HC c I J A B R Q) b _ i = HC c I (zu J (50 * b + k) x) A B R Q i
  by_cases q : i = b
  · subst q
    unfold HC
    rw [up_eq, if_neg (by omega), if_pos h]
  · rw [up_ne _ _ _ _ q]
    unfold HC
    rw [hfv_neJ I J R (50 * b + k) x (hfs i) (50 * i) (fun j hj => by have := hfs_len i; omega)]
theorem hp_wR (b k z : Nat) (x : Value) (h : hs b = 6) (hk : (hfs b)[k]? = some (3, z)) : mq_wr (hp n s c I J A B R Q) b (.inr (hcl b, (mfs (hp n s c I J A B R Q) b).set k x)) = hp n s c I J A B (zu R (50 * b + k) x) Q := by
  rw [hp_mfs n s c I J A B R Q b h, hfv_setR I J R x z (hfs b) (50 * b) k hk]
  have hk2 : k < (hfs b).length := by
    rcases Nat.lt_or_ge k (hfs b).length with q | q
    · exact q
    · rw [List.getElem?_eq_none q] at hk; cases hk
  have hk3 := hfs_len b
  unfold mq_wr hp
  refine congrArg (fun f => (n, s, f)) ?_
  funext i
  show mq_up (HC c I J A B R Q) b _ i = HC c I J A B (zu R (50 * b + k) x) Q i
  by_cases q : i = b
  · subst q
    unfold HC
    rw [up_eq, if_neg (by omega), if_pos h]
  · rw [up_ne _ _ _ _ q]
    unfold HC
    rw [hfv_neR I J R (50 * b + k) x (hfs i) (50 * i) (fun j hj => by have := hfs_len i; omega)]
theorem okv_I (ci k : Nat) (x : Int32) (h : mp_ft ci k = .int) : mq_okv (mp_ft ci k) (.int x) = true := by
  rw [h]; simp [mq_okv, narrow, fits]
theorem okv_J (ci k : Nat) (x : Int64) (h : mp_ft ci k = .long) : mq_okv (mp_ft ci k) (.long x) = true := by
  rw [h]; simp [mq_okv, narrow, fits]
theorem okv_T (ci k x : Nat) (y : String) (h : mp_ft ci k = .object y) : mq_okv (mp_ft ci k) (.ref x) = true := by
  rw [h]; simp [mq_okv, narrow, fits]
theorem okv_TN (ci k : Nat) (y : String) (h : mp_ft ci k = .object y) : mq_okv (mp_ft ci k) .null = true := by
  rw [h]; simp [mq_okv, narrow, fits]
theorem okv_A (ci k x : Nat) (y : FieldType) (h : mp_ft ci k = .array y) : mq_okv (mp_ft ci k) (.ref x) = true := by
  rw [h]; simp [mq_okv, narrow, fits]
theorem ho_0 : mo0 (hp n s c I J A B R Q) 0 9 = true := rfl
theorem ho_0_0 : mo (hp n s c I J A B R Q) 0 9 0 = true := rfl
theorem hf_0_0 : mf (hp n s c I J A B R Q) 0 0 = .ref 1 := rfl
theorem ho_0_1 : mo (hp n s c I J A B R Q) 0 9 1 = true := rfl
theorem hf_0_1 : mf (hp n s c I J A B R Q) 0 1 = .ref 3 := rfl
theorem ho_0_2 : mo (hp n s c I J A B R Q) 0 9 2 = true := rfl
theorem hf_0_2 : mf (hp n s c I J A B R Q) 0 2 = .ref 5 := rfl
theorem ho_0_3 : mo (hp n s c I J A B R Q) 0 9 3 = true := rfl
theorem hf_0_3 : mf (hp n s c I J A B R Q) 0 3 = .ref 14 := rfl
theorem ho_0_4 : mo (hp n s c I J A B R Q) 0 9 4 = true := rfl
theorem hf_0_4 : mf (hp n s c I J A B R Q) 0 4 = .ref 15 := rfl
theorem ho_0_5 : mo (hp n s c I J A B R Q) 0 9 5 = true := rfl
theorem hf_0_5 : mf (hp n s c I J A B R Q) 0 5 = .ref 16 := rfl
theorem ho_0_6 : mo (hp n s c I J A B R Q) 0 9 6 = true := rfl
theorem hf_0_6 : mf (hp n s c I J A B R Q) 0 6 = .ref 22 := rfl
theorem ho_0_7 : mo (hp n s c I J A B R Q) 0 9 7 = true := rfl
theorem hf_0_7 : mf (hp n s c I J A B R Q) 0 7 = .int (I 7) := rfl
theorem hk_0_7 (x : Int32) : mq_okv (mp_ft 9 7) (.int x) = true := okv_I _ _ _ rfl
theorem hw_0_7 (x : Int32) : mq_wr (hp n s c I J A B R Q) 0 (.inr (9, (mfs (hp n s c I J A B R Q) 0).set 7 (.int x))) = hp n s c (zu I 7 x) J A B R Q := hp_wI n s c I J A B R Q 0 7 0 x rfl rfl
theorem ho_1 : mo0 (hp n s c I J A B R Q) 1 8 = true := rfl
theorem ho_1_0 : mo (hp n s c I J A B R Q) 1 8 0 = true := rfl
theorem hf_1_0 : mf (hp n s c I J A B R Q) 1 0 = .ref 2 := rfl
theorem ho_1_1 : mo (hp n s c I J A B R Q) 1 8 1 = true := rfl
theorem hf_1_1 : mf (hp n s c I J A B R Q) 1 1 = .int (I 51) := rfl
theorem hk_1_1 (x : Int32) : mq_okv (mp_ft 8 1) (.int x) = true := okv_I _ _ _ rfl
theorem hw_1_1 (x : Int32) : mq_wr (hp n s c I J A B R Q) 1 (.inr (8, (mfs (hp n s c I J A B R Q) 1).set 1 (.int x))) = hp n s c (zu I 51 x) J A B R Q := hp_wI n s c I J A B R Q 1 1 0 x rfl rfl
theorem ho_1_2 : mo (hp n s c I J A B R Q) 1 8 2 = true := rfl
theorem hf_1_2 : mf (hp n s c I J A B R Q) 1 2 = .int (I 52) := rfl
theorem hk_1_2 (x : Int32) : mq_okv (mp_ft 8 2) (.int x) = true := okv_I _ _ _ rfl
theorem hw_1_2 (x : Int32) : mq_wr (hp n s c I J A B R Q) 1 (.inr (8, (mfs (hp n s c I J A B R Q) 1).set 2 (.int x))) = hp n s c (zu I 52 x) J A B R Q := hp_wI n s c I J A B R Q 1 2 0 x rfl rfl
theorem ho_1_3 : mo (hp n s c I J A B R Q) 1 8 3 = true := rfl
theorem hf_1_3 : mf (hp n s c I J A B R Q) 1 3 = .int (I 53) := rfl
theorem hk_1_3 (x : Int32) : mq_okv (mp_ft 8 3) (.int x) = true := okv_I _ _ _ rfl
theorem hw_1_3 (x : Int32) : mq_wr (hp n s c I J A B R Q) 1 (.inr (8, (mfs (hp n s c I J A B R Q) 1).set 3 (.int x))) = hp n s c (zu I 53 x) J A B R Q := hp_wI n s c I J A B R Q 1 3 0 x rfl rfl
theorem ho_1_4 : mo (hp n s c I J A B R Q) 1 8 4 = true := rfl
theorem hf_1_4 : mf (hp n s c I J A B R Q) 1 4 = .int (I 54) := rfl
theorem hk_1_4 (x : Int32) : mq_okv (mp_ft 8 4) (.int x) = true := okv_I _ _ _ rfl
theorem hw_1_4 (x : Int32) : mq_wr (hp n s c I J A B R Q) 1 (.inr (8, (mfs (hp n s c I J A B R Q) 1).set 4 (.int x))) = hp n s c (zu I 54 x) J A B R Q := hp_wI n s c I J A B R Q 1 4 0 x rfl rfl
theorem ho_1_5 : mo (hp n s c I J A B R Q) 1 8 5 = true := rfl
theorem hf_1_5 : mf (hp n s c I J A B R Q) 1 5 = .int (I 55) := rfl
theorem hk_1_5 (x : Int32) : mq_okv (mp_ft 8 5) (.int x) = true := okv_I _ _ _ rfl
theorem hw_1_5 (x : Int32) : mq_wr (hp n s c I J A B R Q) 1 (.inr (8, (mfs (hp n s c I J A B R Q) 1).set 5 (.int x))) = hp n s c (zu I 55 x) J A B R Q := hp_wI n s c I J A B R Q 1 5 0 x rfl rfl
theorem hn_2 : man (hp n s c I J A B R Q) 2 = 1000 := rfl
theorem hi_2 (i : Int32) : mai (hp n s c I J A B R Q) 2 2 2 i = mq_in i 1000 := rfl
theorem hg_2 : mag (hp n s c I J A B R Q) 2 = A 2 := rfl
theorem hu_2 (g : Nat → Int32) : mq_wr (hp n s c I J A B R Q) 2 (.inl (2, 1000, .inl g)) = hp n s c I J (zu A 2 g) B R Q := hp_wA n s c I J A B R Q 2 g (by decide)
theorem ho_3 : mo0 (hp n s c I J A B R Q) 3 7 = true := rfl
theorem ho_3_0 : mo (hp n s c I J A B R Q) 3 7 0 = true := rfl
theorem hf_3_0 : mf (hp n s c I J A B R Q) 3 0 = .ref 1 := rfl
theorem ho_3_1 : mo (hp n s c I J A B R Q) 3 7 1 = true := rfl
theorem hf_3_1 : mf (hp n s c I J A B R Q) 3 1 = .ref 4 := rfl
theorem ho_3_2 : mo (hp n s c I J A B R Q) 3 7 2 = true := rfl
theorem hf_3_2 : mf (hp n s c I J A B R Q) 3 2 = .int (I 152) := rfl
theorem hk_3_2 (x : Int32) : mq_okv (mp_ft 7 2) (.int x) = true := okv_I _ _ _ rfl
theorem hw_3_2 (x : Int32) : mq_wr (hp n s c I J A B R Q) 3 (.inr (7, (mfs (hp n s c I J A B R Q) 3).set 2 (.int x))) = hp n s c (zu I 152 x) J A B R Q := hp_wI n s c I J A B R Q 3 2 0 x rfl rfl
theorem ho_3_3 : mo (hp n s c I J A B R Q) 3 7 3 = true := rfl
theorem hf_3_3 : mf (hp n s c I J A B R Q) 3 3 = .int (I 153) := rfl
theorem hk_3_3 (x : Int32) : mq_okv (mp_ft 7 3) (.int x) = true := okv_I _ _ _ rfl
theorem hw_3_3 (x : Int32) : mq_wr (hp n s c I J A B R Q) 3 (.inr (7, (mfs (hp n s c I J A B R Q) 3).set 3 (.int x))) = hp n s c (zu I 153 x) J A B R Q := hp_wI n s c I J A B R Q 3 3 0 x rfl rfl
theorem hn_4 : man (hp n s c I J A B R Q) 4 = 36 := rfl
theorem hi_4 (i : Int32) : mai (hp n s c I J A B R Q) 4 1 1 i = mq_in i 36 := rfl
theorem hj_4 (i : Int32) : mai (hp n s c I J A B R Q) 4 1 6 i = mq_in i 36 := rfl
theorem hg_4 : mag (hp n s c I J A B R Q) 4 = A 4 := rfl
theorem hu_4 (g : Nat → Int32) : mq_wr (hp n s c I J A B R Q) 4 (.inl (1, 36, .inl g)) = hp n s c I J (zu A 4 g) B R Q := hp_wA n s c I J A B R Q 4 g (by decide)
theorem ho_5 : mo0 (hp n s c I J A B R Q) 5 5 = true := rfl
theorem ho_5_0 : mo (hp n s c I J A B R Q) 5 5 0 = true := rfl
theorem hf_5_0 : mf (hp n s c I J A B R Q) 5 0 = .ref 1 := rfl
theorem ho_5_1 : mo (hp n s c I J A B R Q) 5 5 1 = true := rfl
theorem hf_5_1 : mf (hp n s c I J A B R Q) 5 1 = .ref 6 := rfl
theorem ho_5_2 : mo (hp n s c I J A B R Q) 5 5 2 = true := rfl
theorem hf_5_2 : mf (hp n s c I J A B R Q) 5 2 = .ref 10 := rfl
theorem ho_5_3 : mo (hp n s c I J A B R Q) 5 5 3 = true := rfl
theorem hf_5_3 : mf (hp n s c I J A B R Q) 5 3 = .int (I 253) := rfl
theorem hk_5_3 (x : Int32) : mq_okv (mp_ft 5 3) (.int x) = true := okv_I _ _ _ rfl
theorem hw_5_3 (x : Int32) : mq_wr (hp n s c I J A B R Q) 5 (.inr (5, (mfs (hp n s c I J A B R Q) 5).set 3 (.int x))) = hp n s c (zu I 253 x) J A B R Q := hp_wI n s c I J A B R Q 5 3 0 x rfl rfl
theorem ho_6 : mo0 (hp n s c I J A B R Q) 6 1 = true := rfl
theorem ho_6_0 : mo (hp n s c I J A B R Q) 6 1 0 = true := rfl
theorem hf_6_0 : mf (hp n s c I J A B R Q) 6 0 = .ref 7 := rfl
theorem ho_6_1 : mo (hp n s c I J A B R Q) 6 1 1 = true := rfl
theorem hf_6_1 : mf (hp n s c I J A B R Q) 6 1 = .ref 8 := rfl
theorem ho_6_2 : mo (hp n s c I J A B R Q) 6 1 2 = true := rfl
theorem hf_6_2 : mf (hp n s c I J A B R Q) 6 2 = .ref 9 := rfl
theorem ho_6_3 : mo (hp n s c I J A B R Q) 6 1 3 = true := rfl
theorem hf_6_3 : mf (hp n s c I J A B R Q) 6 3 = .int (I 303) := rfl
theorem hk_6_3 (x : Int32) : mq_okv (mp_ft 1 3) (.int x) = true := okv_I _ _ _ rfl
theorem hw_6_3 (x : Int32) : mq_wr (hp n s c I J A B R Q) 6 (.inr (1, (mfs (hp n s c I J A B R Q) 6).set 3 (.int x))) = hp n s c (zu I 303 x) J A B R Q := hp_wI n s c I J A B R Q 6 3 0 x rfl rfl
theorem hn_7 : man (hp n s c I J A B R Q) 7 = 1000 := rfl
theorem hi_7 (i : Int32) : mai (hp n s c I J A B R Q) 7 0 0 i = mq_in i 1000 := rfl
theorem hj_7 (i : Int32) : mai (hp n s c I J A B R Q) 7 0 5 i = mq_in i 1000 := rfl
theorem hg_7 : mag (hp n s c I J A B R Q) 7 = A 7 := rfl
theorem hu_7 (g : Nat → Int32) : mq_wr (hp n s c I J A B R Q) 7 (.inl (0, 1000, .inl g)) = hp n s c I J (zu A 7 g) B R Q := hp_wA n s c I J A B R Q 7 g (by decide)
theorem hn_8 : man (hp n s c I J A B R Q) 8 = 1000 := rfl
theorem hi_8 (i : Int32) : mai (hp n s c I J A B R Q) 8 0 0 i = mq_in i 1000 := rfl
theorem hj_8 (i : Int32) : mai (hp n s c I J A B R Q) 8 0 5 i = mq_in i 1000 := rfl
theorem hg_8 : mag (hp n s c I J A B R Q) 8 = A 8 := rfl
theorem hu_8 (g : Nat → Int32) : mq_wr (hp n s c I J A B R Q) 8 (.inl (0, 1000, .inl g)) = hp n s c I J (zu A 8 g) B R Q := hp_wA n s c I J A B R Q 8 g (by decide)
theorem hn_9 : man (hp n s c I J A B R Q) 9 = 64 := rfl
theorem hi_9 (i : Int32) : mai (hp n s c I J A B R Q) 9 0 0 i = mq_in i 64 := rfl
theorem hj_9 (i : Int32) : mai (hp n s c I J A B R Q) 9 0 5 i = mq_in i 64 := rfl
theorem hg_9 : mag (hp n s c I J A B R Q) 9 = A 9 := rfl
theorem hu_9 (g : Nat → Int32) : mq_wr (hp n s c I J A B R Q) 9 (.inl (0, 64, .inl g)) = hp n s c I J (zu A 9 g) B R Q := hp_wA n s c I J A B R Q 9 g (by decide)
theorem ho_10 : mo0 (hp n s c I J A B R Q) 10 0 = true := rfl
theorem ho_10_0 : mo (hp n s c I J A B R Q) 10 0 0 = true := rfl
theorem hf_10_0 : mf (hp n s c I J A B R Q) 10 0 = .ref 11 := rfl
theorem ho_10_1 : mo (hp n s c I J A B R Q) 10 0 1 = true := rfl
theorem hf_10_1 : mf (hp n s c I J A B R Q) 10 1 = .ref 12 := rfl
theorem ho_10_2 : mo (hp n s c I J A B R Q) 10 0 2 = true := rfl
theorem hf_10_2 : mf (hp n s c I J A B R Q) 10 2 = .ref 13 := rfl
theorem ho_10_3 : mo (hp n s c I J A B R Q) 10 0 3 = true := rfl
theorem hf_10_3 : mf (hp n s c I J A B R Q) 10 3 = .int (I 503) := rfl
theorem hk_10_3 (x : Int32) : mq_okv (mp_ft 0 3) (.int x) = true := okv_I _ _ _ rfl
theorem hw_10_3 (x : Int32) : mq_wr (hp n s c I J A B R Q) 10 (.inr (0, (mfs (hp n s c I J A B R Q) 10).set 3 (.int x))) = hp n s c (zu I 503 x) J A B R Q := hp_wI n s c I J A B R Q 10 3 0 x rfl rfl
theorem ho_10_4 : mo (hp n s c I J A B R Q) 10 0 4 = true := rfl
theorem hf_10_4 : mf (hp n s c I J A B R Q) 10 4 = R 504 := rfl
theorem hk_10_4 (x : Nat) : mq_okv (mp_ft 0 4) (.ref x) = true := okv_T _ _ _ _ rfl
theorem hkN_10_4 : mq_okv (mp_ft 0 4) .null = true := okv_TN _ _ _ rfl
theorem hw_10_4 (x : Value) : mq_wr (hp n s c I J A B R Q) 10 (.inr (0, (mfs (hp n s c I J A B R Q) 10).set 4 x)) = hp n s c I J A B (zu R 504 x) Q := hp_wR n s c I J A B R Q 10 4 0 x rfl rfl
theorem hn_11 : man (hp n s c I J A B R Q) 11 = 144 := rfl
theorem hi_11 (i : Int32) : mai (hp n s c I J A B R Q) 11 0 0 i = mq_in i 144 := rfl
theorem hj_11 (i : Int32) : mai (hp n s c I J A B R Q) 11 0 5 i = mq_in i 144 := rfl
theorem hg_11 : mag (hp n s c I J A B R Q) 11 = A 11 := rfl
theorem hu_11 (g : Nat → Int32) : mq_wr (hp n s c I J A B R Q) 11 (.inl (0, 144, .inl g)) = hp n s c I J (zu A 11 g) B R Q := hp_wA n s c I J A B R Q 11 g (by decide)
theorem hn_12 : man (hp n s c I J A B R Q) 12 = 6 := rfl
theorem hi_12 (i : Int32) : mai (hp n s c I J A B R Q) 12 0 0 i = mq_in i 6 := rfl
theorem hj_12 (i : Int32) : mai (hp n s c I J A B R Q) 12 0 5 i = mq_in i 6 := rfl
theorem hg_12 : mag (hp n s c I J A B R Q) 12 = A 12 := rfl
theorem hu_12 (g : Nat → Int32) : mq_wr (hp n s c I J A B R Q) 12 (.inl (0, 6, .inl g)) = hp n s c I J (zu A 12 g) B R Q := hp_wA n s c I J A B R Q 12 g (by decide)
theorem hn_13 : man (hp n s c I J A B R Q) 13 = 36 := rfl
theorem hi_13 (i : Int32) : mai (hp n s c I J A B R Q) 13 0 0 i = mq_in i 36 := rfl
theorem hj_13 (i : Int32) : mai (hp n s c I J A B R Q) 13 0 5 i = mq_in i 36 := rfl
theorem hg_13 : mag (hp n s c I J A B R Q) 13 = A 13 := rfl
theorem hu_13 (g : Nat → Int32) : mq_wr (hp n s c I J A B R Q) 13 (.inl (0, 36, .inl g)) = hp n s c I J (zu A 13 g) B R Q := hp_wA n s c I J A B R Q 13 g (by decide)
theorem hn_14 : man (hp n s c I J A B R Q) 14 = 6 := rfl
theorem hi_14 (i : Int32) : mal (hp n s c I J A B R Q) 14 i = mq_in i 6 := rfl
theorem hg_14 : mlg (hp n s c I J A B R Q) 14 = B 14 := rfl
theorem hu_14 (g : Nat → Int64) : mq_wr (hp n s c I J A B R Q) 14 (.inl (3, 6, .inr (.inl g))) = hp n s c I J A (zu B 14 g) R Q := hp_wB n s c I J A B R Q 14 g rfl
theorem hn_15 : man (hp n s c I J A B R Q) 15 = 6 := rfl
theorem hi_15 (i : Int32) : mal (hp n s c I J A B R Q) 15 i = mq_in i 6 := rfl
theorem hg_15 : mlg (hp n s c I J A B R Q) 15 = B 15 := rfl
theorem hu_15 (g : Nat → Int64) : mq_wr (hp n s c I J A B R Q) 15 (.inl (3, 6, .inr (.inl g))) = hp n s c I J A (zu B 15 g) R Q := hp_wB n s c I J A B R Q 15 g rfl
theorem ho_16 : mo0 (hp n s c I J A B R Q) 16 3 = true := rfl
theorem ho_16_0 : mo (hp n s c I J A B R Q) 16 3 0 = true := rfl
theorem hf_16_0 : mf (hp n s c I J A B R Q) 16 0 = .ref 17 := rfl
theorem ho_16_1 : mo (hp n s c I J A B R Q) 16 3 1 = true := rfl
theorem hf_16_1 : mf (hp n s c I J A B R Q) 16 1 = .ref 18 := rfl
theorem ho_16_2 : mo (hp n s c I J A B R Q) 16 3 2 = true := rfl
theorem hf_16_2 : mf (hp n s c I J A B R Q) 16 2 = .int (I 802) := rfl
theorem hk_16_2 (x : Int32) : mq_okv (mp_ft 3 2) (.int x) = true := okv_I _ _ _ rfl
theorem hw_16_2 (x : Int32) : mq_wr (hp n s c I J A B R Q) 16 (.inr (3, (mfs (hp n s c I J A B R Q) 16).set 2 (.int x))) = hp n s c (zu I 802 x) J A B R Q := hp_wI n s c I J A B R Q 16 2 0 x rfl rfl
theorem ho_16_3 : mo (hp n s c I J A B R Q) 16 3 3 = true := rfl
theorem hf_16_3 : mf (hp n s c I J A B R Q) 16 3 = .int (I 803) := rfl
theorem hk_16_3 (x : Int32) : mq_okv (mp_ft 3 3) (.int x) = true := okv_I _ _ _ rfl
theorem hw_16_3 (x : Int32) : mq_wr (hp n s c I J A B R Q) 16 (.inr (3, (mfs (hp n s c I J A B R Q) 16).set 3 (.int x))) = hp n s c (zu I 803 x) J A B R Q := hp_wI n s c I J A B R Q 16 3 0 x rfl rfl
theorem ho_16_4 : mo (hp n s c I J A B R Q) 16 3 4 = true := rfl
theorem hf_16_4 : mf (hp n s c I J A B R Q) 16 4 = R 804 := rfl
theorem hk_16_4 (x : Nat) : mq_okv (mp_ft 3 4) (.ref x) = true := okv_T _ _ _ _ rfl
theorem hkN_16_4 : mq_okv (mp_ft 3 4) .null = true := okv_TN _ _ _ rfl
theorem hw_16_4 (x : Value) : mq_wr (hp n s c I J A B R Q) 16 (.inr (3, (mfs (hp n s c I J A B R Q) 16).set 4 x)) = hp n s c I J A B (zu R 804 x) Q := hp_wR n s c I J A B R Q 16 4 0 x rfl rfl
theorem hn_17 : man (hp n s c I J A B R Q) 17 = 12 := rfl
theorem hi_17 (i : Int32) : maq (hp n s c I J A B R Q) 17 i = mq_in i 12 := rfl
theorem hg_17 : mqg (hp n s c I J A B R Q) 17 = Q 17 := rfl
theorem hu_17 (g : Nat → Option Nat) : mq_wr (hp n s c I J A B R Q) 17 (.inl (4, 12, .inr (.inr (.inr (.inr g))))) = hp n s c I J A B R (zu Q 17 g) := hp_wQ n s c I J A B R Q 17 g rfl
theorem hn_18 : man (hp n s c I J A B R Q) 18 = 12 := rfl
theorem hi_18 (i : Int32) : maq (hp n s c I J A B R Q) 18 i = mq_in i 12 := rfl
theorem hg_18 : mqg (hp n s c I J A B R Q) 18 = Q 18 := rfl
theorem hu_18 (g : Nat → Option Nat) : mq_wr (hp n s c I J A B R Q) 18 (.inl (4, 12, .inr (.inr (.inr (.inr g))))) = hp n s c I J A B R (zu Q 18 g) := hp_wQ n s c I J A B R Q 18 g rfl
theorem hn_22 : man (hp n s c I J A B R Q) 22 = 4 := rfl
theorem hi_22 (i : Int32) : maq (hp n s c I J A B R Q) 22 i = mq_in i 4 := rfl
theorem hg_22 : mqg (hp n s c I J A B R Q) 22 = Q 22 := rfl
theorem hu_22 (g : Nat → Option Nat) : mq_wr (hp n s c I J A B R Q) 22 (.inl (4, 4, .inr (.inr (.inr (.inr g))))) = hp n s c I J A B R (zu Q 22 g) := hp_wQ n s c I J A B R Q 22 g rfl
theorem ho_23 : mo0 (hp n s c I J A B R Q) 23 10 = true := rfl
theorem ho_23_0 : mo (hp n s c I J A B R Q) 23 10 0 = true := rfl
theorem hf_23_0 : mf (hp n s c I J A B R Q) 23 0 = .int (I 1150) := rfl
theorem hk_23_0 (x : Int32) : mq_okv (mp_ft 10 0) (.int x) = true := okv_I _ _ _ rfl
theorem hw_23_0 (x : Int32) : mq_wr (hp n s c I J A B R Q) 23 (.inr (10, (mfs (hp n s c I J A B R Q) 23).set 0 (.int x))) = hp n s c (zu I 1150 x) J A B R Q := hp_wI n s c I J A B R Q 23 0 0 x rfl rfl
theorem ho_23_1 : mo (hp n s c I J A B R Q) 23 10 1 = true := rfl
theorem hf_23_1 : mf (hp n s c I J A B R Q) 23 1 = .ref 24 := rfl
theorem ho_23_2 : mo (hp n s c I J A B R Q) 23 10 2 = true := rfl
theorem hf_23_2 : mf (hp n s c I J A B R Q) 23 2 = .int (I 1152) := rfl
theorem hk_23_2 (x : Int32) : mq_okv (mp_ft 10 2) (.int x) = true := okv_I _ _ _ rfl
theorem hw_23_2 (x : Int32) : mq_wr (hp n s c I J A B R Q) 23 (.inr (10, (mfs (hp n s c I J A B R Q) 23).set 2 (.int x))) = hp n s c (zu I 1152 x) J A B R Q := hp_wI n s c I J A B R Q 23 2 0 x rfl rfl
theorem ho_23_3 : mo (hp n s c I J A B R Q) 23 10 3 = true := rfl
theorem hf_23_3 : mf (hp n s c I J A B R Q) 23 3 = .int (I 1153) := rfl
theorem hk_23_3 (x : Int32) : mq_okv (mp_ft 10 3) (.int x) = true := okv_I _ _ _ rfl
theorem hw_23_3 (x : Int32) : mq_wr (hp n s c I J A B R Q) 23 (.inr (10, (mfs (hp n s c I J A B R Q) 23).set 3 (.int x))) = hp n s c (zu I 1153 x) J A B R Q := hp_wI n s c I J A B R Q 23 3 0 x rfl rfl
theorem ho_23_4 : mo (hp n s c I J A B R Q) 23 10 4 = true := rfl
theorem hf_23_4 : mf (hp n s c I J A B R Q) 23 4 = .ref 25 := rfl
theorem ho_23_5 : mo (hp n s c I J A B R Q) 23 10 5 = true := rfl
theorem hf_23_5 : mf (hp n s c I J A B R Q) 23 5 = .ref 26 := rfl
theorem ho_23_6 : mo (hp n s c I J A B R Q) 23 10 6 = true := rfl
theorem hf_23_6 : mf (hp n s c I J A B R Q) 23 6 = .ref 27 := rfl
theorem ho_23_7 : mo (hp n s c I J A B R Q) 23 10 7 = true := rfl
theorem hf_23_7 : mf (hp n s c I J A B R Q) 23 7 = .int (I 1157) := rfl
theorem hk_23_7 (x : Int32) : mq_okv (mp_ft 10 7) (.int x) = true := okv_I _ _ _ rfl
theorem hw_23_7 (x : Int32) : mq_wr (hp n s c I J A B R Q) 23 (.inr (10, (mfs (hp n s c I J A B R Q) 23).set 7 (.int x))) = hp n s c (zu I 1157 x) J A B R Q := hp_wI n s c I J A B R Q 23 7 0 x rfl rfl
theorem ho_23_8 : mo (hp n s c I J A B R Q) 23 10 8 = true := rfl
theorem hf_23_8 : mf (hp n s c I J A B R Q) 23 8 = .int (I 1158) := rfl
theorem hk_23_8 (x : Int32) : mq_okv (mp_ft 10 8) (.int x) = true := okv_I _ _ _ rfl
theorem hw_23_8 (x : Int32) : mq_wr (hp n s c I J A B R Q) 23 (.inr (10, (mfs (hp n s c I J A B R Q) 23).set 8 (.int x))) = hp n s c (zu I 1158 x) J A B R Q := hp_wI n s c I J A B R Q 23 8 0 x rfl rfl
theorem ho_23_9 : mo (hp n s c I J A B R Q) 23 10 9 = true := rfl
theorem hf_23_9 : mf (hp n s c I J A B R Q) 23 9 = .ref 28 := rfl
theorem ho_23_10 : mo (hp n s c I J A B R Q) 23 10 10 = true := rfl
theorem hf_23_10 : mf (hp n s c I J A B R Q) 23 10 = .ref 29 := rfl
theorem ho_23_11 : mo (hp n s c I J A B R Q) 23 10 11 = true := rfl
theorem hf_23_11 : mf (hp n s c I J A B R Q) 23 11 = .int (I 1161) := rfl
theorem hk_23_11 (x : Int32) : mq_okv (mp_ft 10 11) (.int x) = true := okv_I _ _ _ rfl
theorem hw_23_11 (x : Int32) : mq_wr (hp n s c I J A B R Q) 23 (.inr (10, (mfs (hp n s c I J A B R Q) 23).set 11 (.int x))) = hp n s c (zu I 1161 x) J A B R Q := hp_wI n s c I J A B R Q 23 11 0 x rfl rfl
theorem ho_23_12 : mo (hp n s c I J A B R Q) 23 10 12 = true := rfl
theorem hf_23_12 : mf (hp n s c I J A B R Q) 23 12 = .int (I 1162) := rfl
theorem hk_23_12 (x : Int32) : mq_okv (mp_ft 10 12) (.int x) = true := okv_I _ _ _ rfl
theorem hw_23_12 (x : Int32) : mq_wr (hp n s c I J A B R Q) 23 (.inr (10, (mfs (hp n s c I J A B R Q) 23).set 12 (.int x))) = hp n s c (zu I 1162 x) J A B R Q := hp_wI n s c I J A B R Q 23 12 0 x rfl rfl
theorem ho_23_13 : mo (hp n s c I J A B R Q) 23 10 13 = true := rfl
theorem hf_23_13 : mf (hp n s c I J A B R Q) 23 13 = .ref 30 := rfl
theorem ho_23_14 : mo (hp n s c I J A B R Q) 23 10 14 = true := rfl
theorem hf_23_14 : mf (hp n s c I J A B R Q) 23 14 = .ref 31 := rfl
theorem ho_23_15 : mo (hp n s c I J A B R Q) 23 10 15 = true := rfl
theorem hf_23_15 : mf (hp n s c I J A B R Q) 23 15 = .ref 32 := rfl
theorem ho_23_16 : mo (hp n s c I J A B R Q) 23 10 16 = true := rfl
theorem hf_23_16 : mf (hp n s c I J A B R Q) 23 16 = .int (I 1166) := rfl
theorem hk_23_16 (x : Int32) : mq_okv (mp_ft 10 16) (.int x) = true := okv_I _ _ _ rfl
theorem hw_23_16 (x : Int32) : mq_wr (hp n s c I J A B R Q) 23 (.inr (10, (mfs (hp n s c I J A B R Q) 23).set 16 (.int x))) = hp n s c (zu I 1166 x) J A B R Q := hp_wI n s c I J A B R Q 23 16 0 x rfl rfl
theorem ho_23_17 : mo (hp n s c I J A B R Q) 23 10 17 = true := rfl
theorem hf_23_17 : mf (hp n s c I J A B R Q) 23 17 = .ref 33 := rfl
theorem ho_23_18 : mo (hp n s c I J A B R Q) 23 10 18 = true := rfl
theorem hf_23_18 : mf (hp n s c I J A B R Q) 23 18 = .ref 34 := rfl
theorem ho_23_19 : mo (hp n s c I J A B R Q) 23 10 19 = true := rfl
theorem hf_23_19 : mf (hp n s c I J A B R Q) 23 19 = .int (I 1169) := rfl
theorem hk_23_19 (x : Int32) : mq_okv (mp_ft 10 19) (.int x) = true := okv_I _ _ _ rfl
theorem hw_23_19 (x : Int32) : mq_wr (hp n s c I J A B R Q) 23 (.inr (10, (mfs (hp n s c I J A B R Q) 23).set 19 (.int x))) = hp n s c (zu I 1169 x) J A B R Q := hp_wI n s c I J A B R Q 23 19 0 x rfl rfl
theorem ho_23_20 : mo (hp n s c I J A B R Q) 23 10 20 = true := rfl
theorem hf_23_20 : mf (hp n s c I J A B R Q) 23 20 = .ref 35 := rfl
theorem ho_23_21 : mo (hp n s c I J A B R Q) 23 10 21 = true := rfl
theorem hf_23_21 : mf (hp n s c I J A B R Q) 23 21 = .int (I 1171) := rfl
theorem hk_23_21 (x : Int32) : mq_okv (mp_ft 10 21) (.int x) = true := okv_I _ _ _ rfl
theorem hw_23_21 (x : Int32) : mq_wr (hp n s c I J A B R Q) 23 (.inr (10, (mfs (hp n s c I J A B R Q) 23).set 21 (.int x))) = hp n s c (zu I 1171 x) J A B R Q := hp_wI n s c I J A B R Q 23 21 0 x rfl rfl
theorem ho_23_22 : mo (hp n s c I J A B R Q) 23 10 22 = true := rfl
theorem hf_23_22 : mf (hp n s c I J A B R Q) 23 22 = .int (I 1172) := rfl
theorem hk_23_22 (x : Int32) : mq_okv (mp_ft 10 22) (.int x) = true := okv_I _ _ _ rfl
theorem hw_23_22 (x : Int32) : mq_wr (hp n s c I J A B R Q) 23 (.inr (10, (mfs (hp n s c I J A B R Q) 23).set 22 (.int x))) = hp n s c (zu I 1172 x) J A B R Q := hp_wI n s c I J A B R Q 23 22 0 x rfl rfl
theorem ho_23_23 : mo (hp n s c I J A B R Q) 23 10 23 = true := rfl
theorem hf_23_23 : mf (hp n s c I J A B R Q) 23 23 = .int (I 1173) := rfl
theorem hk_23_23 (x : Int32) : mq_okv (mp_ft 10 23) (.int x) = true := okv_I _ _ _ rfl
theorem hw_23_23 (x : Int32) : mq_wr (hp n s c I J A B R Q) 23 (.inr (10, (mfs (hp n s c I J A B R Q) 23).set 23 (.int x))) = hp n s c (zu I 1173 x) J A B R Q := hp_wI n s c I J A B R Q 23 23 0 x rfl rfl
theorem ho_23_24 : mo (hp n s c I J A B R Q) 23 10 24 = true := rfl
theorem hf_23_24 : mf (hp n s c I J A B R Q) 23 24 = .int (I 1174) := rfl
theorem hk_23_24 (x : Int32) : mq_okv (mp_ft 10 24) (.int x) = true := okv_I _ _ _ rfl
theorem hw_23_24 (x : Int32) : mq_wr (hp n s c I J A B R Q) 23 (.inr (10, (mfs (hp n s c I J A B R Q) 23).set 24 (.int x))) = hp n s c (zu I 1174 x) J A B R Q := hp_wI n s c I J A B R Q 23 24 0 x rfl rfl
theorem ho_23_25 : mo (hp n s c I J A B R Q) 23 10 25 = true := rfl
theorem hf_23_25 : mf (hp n s c I J A B R Q) 23 25 = .ref 36 := rfl
theorem ho_23_26 : mo (hp n s c I J A B R Q) 23 10 26 = true := rfl
theorem hf_23_26 : mf (hp n s c I J A B R Q) 23 26 = .ref 37 := rfl
theorem ho_23_27 : mo (hp n s c I J A B R Q) 23 10 27 = true := rfl
theorem hf_23_27 : mf (hp n s c I J A B R Q) 23 27 = .int (I 1177) := rfl
theorem hk_23_27 (x : Int32) : mq_okv (mp_ft 10 27) (.int x) = true := okv_I _ _ _ rfl
theorem hw_23_27 (x : Int32) : mq_wr (hp n s c I J A B R Q) 23 (.inr (10, (mfs (hp n s c I J A B R Q) 23).set 27 (.int x))) = hp n s c (zu I 1177 x) J A B R Q := hp_wI n s c I J A B R Q 23 27 0 x rfl rfl
theorem ho_23_28 : mo (hp n s c I J A B R Q) 23 10 28 = true := rfl
theorem hf_23_28 : mf (hp n s c I J A B R Q) 23 28 = .ref 38 := rfl
theorem ho_23_29 : mo (hp n s c I J A B R Q) 23 10 29 = true := rfl
theorem hf_23_29 : mf (hp n s c I J A B R Q) 23 29 = .ref 39 := rfl
theorem ho_23_30 : mo (hp n s c I J A B R Q) 23 10 30 = true := rfl
theorem hf_23_30 : mf (hp n s c I J A B R Q) 23 30 = .long (J 1180) := rfl
theorem hk_23_30 (x : Int64) : mq_okv (mp_ft 10 30) (.long x) = true := okv_J _ _ _ rfl
theorem hw_23_30 (x : Int64) : mq_wr (hp n s c I J A B R Q) 23 (.inr (10, (mfs (hp n s c I J A B R Q) 23).set 30 (.long x))) = hp n s c I (zu J 1180 x) A B R Q := hp_wJ n s c I J A B R Q 23 30 0 x rfl rfl
theorem ho_23_31 : mo (hp n s c I J A B R Q) 23 10 31 = true := rfl
theorem hf_23_31 : mf (hp n s c I J A B R Q) 23 31 = .long (J 1181) := rfl
theorem hk_23_31 (x : Int64) : mq_okv (mp_ft 10 31) (.long x) = true := okv_J _ _ _ rfl
theorem hw_23_31 (x : Int64) : mq_wr (hp n s c I J A B R Q) 23 (.inr (10, (mfs (hp n s c I J A B R Q) 23).set 31 (.long x))) = hp n s c I (zu J 1181 x) A B R Q := hp_wJ n s c I J A B R Q 23 31 0 x rfl rfl
theorem ho_23_32 : mo (hp n s c I J A B R Q) 23 10 32 = true := rfl
theorem hf_23_32 : mf (hp n s c I J A B R Q) 23 32 = .ref 40 := rfl
theorem ho_23_33 : mo (hp n s c I J A B R Q) 23 10 33 = true := rfl
theorem hf_23_33 : mf (hp n s c I J A B R Q) 23 33 = .ref 41 := rfl
theorem ho_23_34 : mo (hp n s c I J A B R Q) 23 10 34 = true := rfl
theorem hf_23_34 : mf (hp n s c I J A B R Q) 23 34 = .int (I 1184) := rfl
theorem hk_23_34 (x : Int32) : mq_okv (mp_ft 10 34) (.int x) = true := okv_I _ _ _ rfl
theorem hw_23_34 (x : Int32) : mq_wr (hp n s c I J A B R Q) 23 (.inr (10, (mfs (hp n s c I J A B R Q) 23).set 34 (.int x))) = hp n s c (zu I 1184 x) J A B R Q := hp_wI n s c I J A B R Q 23 34 0 x rfl rfl
theorem ho_23_35 : mo (hp n s c I J A B R Q) 23 10 35 = true := rfl
theorem hf_23_35 : mf (hp n s c I J A B R Q) 23 35 = .int (I 1185) := rfl
theorem hk_23_35 (x : Int32) : mq_okv (mp_ft 10 35) (.int x) = true := okv_I _ _ _ rfl
theorem hw_23_35 (x : Int32) : mq_wr (hp n s c I J A B R Q) 23 (.inr (10, (mfs (hp n s c I J A B R Q) 23).set 35 (.int x))) = hp n s c (zu I 1185 x) J A B R Q := hp_wI n s c I J A B R Q 23 35 0 x rfl rfl
theorem ho_23_36 : mo (hp n s c I J A B R Q) 23 10 36 = true := rfl
theorem hf_23_36 : mf (hp n s c I J A B R Q) 23 36 = .int (I 1186) := rfl
theorem hk_23_36 (x : Int32) : mq_okv (mp_ft 10 36) (.int x) = true := okv_I _ _ _ rfl
theorem hw_23_36 (x : Int32) : mq_wr (hp n s c I J A B R Q) 23 (.inr (10, (mfs (hp n s c I J A B R Q) 23).set 36 (.int x))) = hp n s c (zu I 1186 x) J A B R Q := hp_wI n s c I J A B R Q 23 36 0 x rfl rfl
theorem ho_23_37 : mo (hp n s c I J A B R Q) 23 10 37 = true := rfl
theorem hf_23_37 : mf (hp n s c I J A B R Q) 23 37 = .ref 42 := rfl
theorem ho_23_38 : mo (hp n s c I J A B R Q) 23 10 38 = true := rfl
theorem hf_23_38 : mf (hp n s c I J A B R Q) 23 38 = .ref 43 := rfl
theorem ho_23_39 : mo (hp n s c I J A B R Q) 23 10 39 = true := rfl
theorem hf_23_39 : mf (hp n s c I J A B R Q) 23 39 = .ref 44 := rfl
theorem hn_24 : man (hp n s c I J A B R Q) 24 = 1000 := rfl
theorem hi_24 (i : Int32) : mai (hp n s c I J A B R Q) 24 0 0 i = mq_in i 1000 := rfl
theorem hj_24 (i : Int32) : mai (hp n s c I J A B R Q) 24 0 5 i = mq_in i 1000 := rfl
theorem hg_24 : mag (hp n s c I J A B R Q) 24 = A 24 := rfl
theorem hu_24 (g : Nat → Int32) : mq_wr (hp n s c I J A B R Q) 24 (.inl (0, 1000, .inl g)) = hp n s c I J (zu A 24 g) B R Q := hp_wA n s c I J A B R Q 24 g (by decide)
theorem hn_25 : man (hp n s c I J A B R Q) 25 = 1002 := rfl
theorem hi_25 (i : Int32) : mai (hp n s c I J A B R Q) 25 0 0 i = mq_in i 1002 := rfl
theorem hj_25 (i : Int32) : mai (hp n s c I J A B R Q) 25 0 5 i = mq_in i 1002 := rfl
theorem hg_25 : mag (hp n s c I J A B R Q) 25 = A 25 := rfl
theorem hu_25 (g : Nat → Int32) : mq_wr (hp n s c I J A B R Q) 25 (.inl (0, 1002, .inl g)) = hp n s c I J (zu A 25 g) B R Q := hp_wA n s c I J A B R Q 25 g (by decide)
theorem hn_26 : man (hp n s c I J A B R Q) 26 = 1002 := rfl
theorem hi_26 (i : Int32) : mai (hp n s c I J A B R Q) 26 0 0 i = mq_in i 1002 := rfl
theorem hj_26 (i : Int32) : mai (hp n s c I J A B R Q) 26 0 5 i = mq_in i 1002 := rfl
theorem hg_26 : mag (hp n s c I J A B R Q) 26 = A 26 := rfl
theorem hu_26 (g : Nat → Int32) : mq_wr (hp n s c I J A B R Q) 26 (.inl (0, 1002, .inl g)) = hp n s c I J (zu A 26 g) B R Q := hp_wA n s c I J A B R Q 26 g (by decide)
theorem hn_27 : man (hp n s c I J A B R Q) 27 = 1002 := rfl
theorem hi_27 (i : Int32) : mal (hp n s c I J A B R Q) 27 i = mq_in i 1002 := rfl
theorem hg_27 : mlg (hp n s c I J A B R Q) 27 = B 27 := rfl
theorem hu_27 (g : Nat → Int64) : mq_wr (hp n s c I J A B R Q) 27 (.inl (3, 1002, .inr (.inl g))) = hp n s c I J A (zu B 27 g) R Q := hp_wB n s c I J A B R Q 27 g rfl
theorem hn_28 : man (hp n s c I J A B R Q) 28 = 15 := rfl
theorem hi_28 (i : Int32) : mal (hp n s c I J A B R Q) 28 i = mq_in i 15 := rfl
theorem hg_28 : mlg (hp n s c I J A B R Q) 28 = B 28 := rfl
theorem hu_28 (g : Nat → Int64) : mq_wr (hp n s c I J A B R Q) 28 (.inl (3, 15, .inr (.inl g))) = hp n s c I J A (zu B 28 g) R Q := hp_wB n s c I J A B R Q 28 g rfl
theorem hn_29 : man (hp n s c I J A B R Q) 29 = 4256 := rfl
theorem hi_29 (i : Int32) : mai (hp n s c I J A B R Q) 29 0 0 i = mq_in i 4256 := rfl
theorem hj_29 (i : Int32) : mai (hp n s c I J A B R Q) 29 0 5 i = mq_in i 4256 := rfl
theorem hg_29 : mag (hp n s c I J A B R Q) 29 = A 29 := rfl
theorem hu_29 (g : Nat → Int32) : mq_wr (hp n s c I J A B R Q) 29 (.inl (0, 4256, .inl g)) = hp n s c I J (zu A 29 g) B R Q := hp_wA n s c I J A B R Q 29 g (by decide)
theorem hn_30 : man (hp n s c I J A B R Q) 30 = 36 := rfl
theorem hi_30 (i : Int32) : mai (hp n s c I J A B R Q) 30 1 1 i = mq_in i 36 := rfl
theorem hj_30 (i : Int32) : mai (hp n s c I J A B R Q) 30 1 6 i = mq_in i 36 := rfl
theorem hg_30 : mag (hp n s c I J A B R Q) 30 = A 30 := rfl
theorem hu_30 (g : Nat → Int32) : mq_wr (hp n s c I J A B R Q) 30 (.inl (1, 36, .inl g)) = hp n s c I J (zu A 30 g) B R Q := hp_wA n s c I J A B R Q 30 g (by decide)
theorem hn_31 : man (hp n s c I J A B R Q) 31 = 1100 := rfl
theorem hi_31 (i : Int32) : mai (hp n s c I J A B R Q) 31 0 0 i = mq_in i 1100 := rfl
theorem hj_31 (i : Int32) : mai (hp n s c I J A B R Q) 31 0 5 i = mq_in i 1100 := rfl
theorem hg_31 : mag (hp n s c I J A B R Q) 31 = A 31 := rfl
theorem hu_31 (g : Nat → Int32) : mq_wr (hp n s c I J A B R Q) 31 (.inl (0, 1100, .inl g)) = hp n s c I J (zu A 31 g) B R Q := hp_wA n s c I J A B R Q 31 g (by decide)
theorem hn_32 : man (hp n s c I J A B R Q) 32 = 1100 := rfl
theorem hi_32 (i : Int32) : mai (hp n s c I J A B R Q) 32 0 0 i = mq_in i 1100 := rfl
theorem hj_32 (i : Int32) : mai (hp n s c I J A B R Q) 32 0 5 i = mq_in i 1100 := rfl
theorem hg_32 : mag (hp n s c I J A B R Q) 32 = A 32 := rfl
theorem hu_32 (g : Nat → Int32) : mq_wr (hp n s c I J A B R Q) 32 (.inl (0, 1100, .inl g)) = hp n s c I J (zu A 32 g) B R Q := hp_wA n s c I J A B R Q 32 g (by decide)
theorem hn_33 : man (hp n s c I J A B R Q) 33 = 5 := rfl
theorem hi_33 (i : Int32) : mai (hp n s c I J A B R Q) 33 0 0 i = mq_in i 5 := rfl
theorem hj_33 (i : Int32) : mai (hp n s c I J A B R Q) 33 0 5 i = mq_in i 5 := rfl
theorem hg_33 : mag (hp n s c I J A B R Q) 33 = A 33 := rfl
theorem hu_33 (g : Nat → Int32) : mq_wr (hp n s c I J A B R Q) 33 (.inl (0, 5, .inl g)) = hp n s c I J (zu A 33 g) B R Q := hp_wA n s c I J A B R Q 33 g (by decide)
theorem hn_34 : man (hp n s c I J A B R Q) 34 = 1100 := rfl
theorem hi_34 (i : Int32) : mai (hp n s c I J A B R Q) 34 0 0 i = mq_in i 1100 := rfl
theorem hj_34 (i : Int32) : mai (hp n s c I J A B R Q) 34 0 5 i = mq_in i 1100 := rfl
theorem hg_34 : mag (hp n s c I J A B R Q) 34 = A 34 := rfl
theorem hu_34 (g : Nat → Int32) : mq_wr (hp n s c I J A B R Q) 34 (.inl (0, 1100, .inl g)) = hp n s c I J (zu A 34 g) B R Q := hp_wA n s c I J A B R Q 34 g (by decide)
theorem hn_35 : man (hp n s c I J A B R Q) 35 = 144 := rfl
theorem hi_35 (i : Int32) : mai (hp n s c I J A B R Q) 35 0 0 i = mq_in i 144 := rfl
theorem hj_35 (i : Int32) : mai (hp n s c I J A B R Q) 35 0 5 i = mq_in i 144 := rfl
theorem hg_35 : mag (hp n s c I J A B R Q) 35 = A 35 := rfl
theorem hu_35 (g : Nat → Int32) : mq_wr (hp n s c I J A B R Q) 35 (.inl (0, 144, .inl g)) = hp n s c I J (zu A 35 g) B R Q := hp_wA n s c I J A B R Q 35 g (by decide)
theorem hn_36 : man (hp n s c I J A B R Q) 36 = 726 := rfl
theorem hi_36 (i : Int32) : mai (hp n s c I J A B R Q) 36 1 1 i = mq_in i 726 := rfl
theorem hj_36 (i : Int32) : mai (hp n s c I J A B R Q) 36 1 6 i = mq_in i 726 := rfl
theorem hg_36 : mag (hp n s c I J A B R Q) 36 = A 36 := rfl
theorem hu_36 (g : Nat → Int32) : mq_wr (hp n s c I J A B R Q) 36 (.inl (1, 726, .inl g)) = hp n s c I J (zu A 36 g) B R Q := hp_wA n s c I J A B R Q 36 g (by decide)
theorem hn_37 : man (hp n s c I J A B R Q) 37 = 36 := rfl
theorem hi_37 (i : Int32) : mal (hp n s c I J A B R Q) 37 i = mq_in i 36 := rfl
theorem hg_37 : mlg (hp n s c I J A B R Q) 37 = B 37 := rfl
theorem hu_37 (g : Nat → Int64) : mq_wr (hp n s c I J A B R Q) 37 (.inl (3, 36, .inr (.inl g))) = hp n s c I J A (zu B 37 g) R Q := hp_wB n s c I J A B R Q 37 g rfl
theorem hn_38 : man (hp n s c I J A B R Q) 38 = 12000 := rfl
theorem hi_38 (i : Int32) : mai (hp n s c I J A B R Q) 38 0 0 i = mq_in i 12000 := rfl
theorem hj_38 (i : Int32) : mai (hp n s c I J A B R Q) 38 0 5 i = mq_in i 12000 := rfl
theorem hg_38 : mag (hp n s c I J A B R Q) 38 = A 38 := rfl
theorem hu_38 (g : Nat → Int32) : mq_wr (hp n s c I J A B R Q) 38 (.inl (0, 12000, .inl g)) = hp n s c I J (zu A 38 g) B R Q := hp_wA n s c I J A B R Q 38 g (by decide)
theorem hn_39 : man (hp n s c I J A B R Q) 39 = 6 := rfl
theorem hi_39 (i : Int32) : mai (hp n s c I J A B R Q) 39 0 0 i = mq_in i 6 := rfl
theorem hj_39 (i : Int32) : mai (hp n s c I J A B R Q) 39 0 5 i = mq_in i 6 := rfl
theorem hg_39 : mag (hp n s c I J A B R Q) 39 = A 39 := rfl
theorem hu_39 (g : Nat → Int32) : mq_wr (hp n s c I J A B R Q) 39 (.inl (0, 6, .inl g)) = hp n s c I J (zu A 39 g) B R Q := hp_wA n s c I J A B R Q 39 g (by decide)
theorem hn_40 : man (hp n s c I J A B R Q) 40 = 6 := rfl
theorem hi_40 (i : Int32) : mai (hp n s c I J A B R Q) 40 0 0 i = mq_in i 6 := rfl
theorem hj_40 (i : Int32) : mai (hp n s c I J A B R Q) 40 0 5 i = mq_in i 6 := rfl
theorem hg_40 : mag (hp n s c I J A B R Q) 40 = A 40 := rfl
theorem hu_40 (g : Nat → Int32) : mq_wr (hp n s c I J A B R Q) 40 (.inl (0, 6, .inl g)) = hp n s c I J (zu A 40 g) B R Q := hp_wA n s c I J A B R Q 40 g (by decide)
theorem hn_41 : man (hp n s c I J A B R Q) 41 = 6 := rfl
theorem hi_41 (i : Int32) : mai (hp n s c I J A B R Q) 41 0 0 i = mq_in i 6 := rfl
theorem hj_41 (i : Int32) : mai (hp n s c I J A B R Q) 41 0 5 i = mq_in i 6 := rfl
theorem hg_41 : mag (hp n s c I J A B R Q) 41 = A 41 := rfl
theorem hu_41 (g : Nat → Int32) : mq_wr (hp n s c I J A B R Q) 41 (.inl (0, 6, .inl g)) = hp n s c I J (zu A 41 g) B R Q := hp_wA n s c I J A B R Q 41 g (by decide)
theorem hn_42 : man (hp n s c I J A B R Q) 42 = 6 := rfl
theorem hi_42 (i : Int32) : mal (hp n s c I J A B R Q) 42 i = mq_in i 6 := rfl
theorem hg_42 : mlg (hp n s c I J A B R Q) 42 = B 42 := rfl
theorem hu_42 (g : Nat → Int64) : mq_wr (hp n s c I J A B R Q) 42 (.inl (3, 6, .inr (.inl g))) = hp n s c I J A (zu B 42 g) R Q := hp_wB n s c I J A B R Q 42 g rfl
theorem hn_43 : man (hp n s c I J A B R Q) 43 = 6 := rfl
theorem hi_43 (i : Int32) : mal (hp n s c I J A B R Q) 43 i = mq_in i 6 := rfl
theorem hg_43 : mlg (hp n s c I J A B R Q) 43 = B 43 := rfl
theorem hu_43 (g : Nat → Int64) : mq_wr (hp n s c I J A B R Q) 43 (.inl (3, 6, .inr (.inl g))) = hp n s c I J A (zu B 43 g) R Q := hp_wB n s c I J A B R Q 43 g rfl
theorem hn_44 : man (hp n s c I J A B R Q) 44 = 4 := rfl
theorem hi_44 (i : Int32) : mai (hp n s c I J A B R Q) 44 1 1 i = mq_in i 4 := rfl
theorem hj_44 (i : Int32) : mai (hp n s c I J A B R Q) 44 1 6 i = mq_in i 4 := rfl
theorem hg_44 : mag (hp n s c I J A B R Q) 44 = A 44 := rfl
theorem hu_44 (g : Nat → Int32) : mq_wr (hp n s c I J A B R Q) 44 (.inl (1, 4, .inl g)) = hp n s c I J (zu A 44 g) B R Q := hp_wA n s c I J A B R Q 44 g (by decide)
theorem hn_45 : man (hp n s c I J A B R Q) 45 = 1 := rfl
theorem hi_45 (i : Int32) : mal (hp n s c I J A B R Q) 45 i = mq_in i 1 := rfl
theorem hg_45 : mlg (hp n s c I J A B R Q) 45 = B 45 := rfl
theorem hu_45 (g : Nat → Int64) : mq_wr (hp n s c I J A B R Q) 45 (.inl (3, 1, .inr (.inl g))) = hp n s c I J A (zu B 45 g) R Q := hp_wB n s c I J A B R Q 45 g rfl
end HPL
