/-! GOOD tables: their laws as facts -/
theorem zfst_isn {α : Type} {p : Nat → Option α} : ∀ (r k : Nat), zfst p k r = none → ∀ i, k ≤ i → i < k + r → p i = none
  | 0, k, _, i, h1, h2 => by omega
  | r + 1, k, h, i, h1, h2 => by
    simp only [zfst] at h
    cases hp : p k with
    | some x => rw [hp] at h; simp at h
    | none =>
      rw [hp] at h
      by_cases q : i = k
      · rw [q]; exact hp
      · exact zfst_isn r (k + 1) h i (by omega) (by omega)
theorem zf3_isn {p : Nat → Nat → Nat → Bool} {n m : Nat} (h : zf3 p n m = none) (i j k : Nat) (hi : i < n) (hj : j < n) (hk : k < m) : p i j k = false := by
  unfold zf3 at h
  have h1 := zfst_isn _ _ h i (by omega) (by omega)
  have h2 := zfst_isn _ _ h1 j (by omega) (by omega)
  have h3 := zfst_isn _ _ h2 k (by omega) (by omega)
  cases hq : p i j k with
  | false => rfl
  | true => rw [hq] at h3; simp at h3
theorem zf2_isn {p : Nat → Nat → Bool} {n : Nat} (h : zf2 p n = none) (i j : Nat) (hi : i < n) (hj : j < n) : p i j = false := by
  unfold zf2 at h
  have h1 := zfst_isn _ _ h i (by omega) (by omega)
  have h2 := zfst_isn _ _ h1 j (by omega) (by omega)
  cases hq : p i j with
  | false => rfl
  | true => rw [hq] at h2; simp at h2
theorem gd_brk {T : ZT} (h : gdT T = true) : zf3 (law1 T) T.1 T.1 = none ∧ zf2 (law2 T) T.1 = none ∧ zf3 (law3 T) T.1 T.1 = none ∧ zf2 (law4 T) T.1 = none := by
  unfold gdT brk at h
  revert h
  cases zf3 (law1 T) T.1 T.1 with
  | some x => simp
  | none =>
    cases zf2 (law2 T) T.1 with
    | some x => simp
    | none =>
      cases zf3 (law3 T) T.1 T.1 with
      | some x => simp
      | none =>
        cases zf2 (law4 T) T.1 with
        | some x => simp
        | none => simp
section GD
variable {T : ZT}
theorem g1T (h : gdT T = true) {i j k b : Nat} (hi : i < T.1) (hj : j < T.1) (hk : k < T.1) (hb : b < T.1) : zns (fun a => T.2.1 i j a * T.2.1 a k b) 0 T.1 = zns (fun a => T.2.1 j k a * T.2.1 i a b) 0 T.1 := by
  have h1 := zf3_isn (gd_brk h).1 i j k hi hj hk
  unfold law1 at h1
  have h2 : ¬ zany (fun b => !alike T i j k b) 0 T.1 = true := by rw [h1]; simp
  rw [zany_iff] at h2
  have h3 : ¬ (!alike T i j k b) = true := fun e => h2 ⟨b, by omega, by omega, e⟩
  simp [alike] at h3
  exact h3
theorem g2T (h : gdT T = true) {i j : Nat} (hi : i < T.1) (hj : j < T.1) : 0 < T.2.1 i j 0 ↔ T.2.2 i = j := by
  have h1 := zf2_isn (gd_brk h).2.1 i j hi hj
  simp only [law2, decide_eq_false_iff_not, ne_eq, Classical.not_not] at h1
  rw [h1]
theorem g3T (h : gdT T = true) {i j k : Nat} (hi : i < T.1) (hj : j < T.1) (hk : k < T.1) : T.2.1 (T.2.2 i) (T.2.2 j) (T.2.2 k) = T.2.1 i j k := by
  have h1 := zf3_isn (gd_brk h).2.2.1 i j k hi hj hk
  simp only [law3, decide_eq_false_iff_not, ne_eq, Classical.not_not] at h1
  exact h1
theorem g4T (h : gdT T = true) {i j : Nat} (hi : i < T.1) (hj : j < T.1) : szT T i * szT T j = zns (fun k => T.2.1 i j k * szT T k) 0 T.1 := by
  have h1 := zf2_isn (gd_brk h).2.2.2 i j hi hj
  simp only [law4, decide_eq_false_iff_not, ne_eq, Classical.not_not] at h1
  exact h1
theorem szT_pos (hW : WT T) (h : gdT T = true) {i : Nat} (hi : i < T.1) : 1 ≤ szT T i := (g2T h hi (hW.2.2.2.1 i hi)).2 rfl
theorem szT_0 (hW : WT T) : szT T 0 = 1 := by
  unfold szT
  rw [hW.2.2.2.2.2.2.2, hW.2.2.2.2.2.2.1 0 0 hW.1]
  rfl
theorem szT_or {i : Nat} (hi : i < T.1) : szT T i ≤ orT T := zns_ge T.1 0 i (by omega) (by omega)
theorem smT_gd (h : smT T = true) : gdT T = true ∧ orT T ≤ 60 := by
  unfold smT at h
  simp at h
  exact ⟨h.2, h.1⟩
/-- REVERSE is its own inverse -/
theorem rvT_rv (hW : WT T) (h : gdT T = true) {i : Nat} (hi : i < T.1) : T.2.2 (T.2.2 i) = i := by
  have h1 := hW.2.2.2.1 i hi
  have h2 := (g2T h hi h1).2 rfl
  rw [hW.2.2.2.2.1] at h2
  exact (g2T h h1 hi).1 h2
theorem szT_rv (hW : WT T) (h : gdT T = true) {i : Nat} (hi : i < T.1) : szT T (T.2.2 i) = szT T i := by
  unfold szT
  rw [rvT_rv hW h hi, hW.2.2.2.2.1]
end GD
/-! FILLING a run of places -/
def zfl {α : Type} (g f : Nat → α) (k r : Nat) : Nat → α := fun i => if k ≤ i ∧ i < k + r then g i else f i
theorem zfl_0 {α : Type} (g f : Nat → α) (k : Nat) : zfl g f k 0 = f := by
  funext i
  unfold zfl
  rw [if_neg (by omega)]
theorem zfl_s {α : Type} (g f : Nat → α) (k r : Nat) : zfl g (zu f k (g k)) (k + 1) r = zfl g f k (r + 1) := by
  funext i
  unfold zfl
  by_cases q : i = k
  · subst q
    rw [if_neg (by omega), if_pos (by omega), zu_eq]
  · by_cases q2 : k + 1 ≤ i ∧ i < k + 1 + r
    · rw [if_pos q2, if_pos (by omega)]
    · rw [if_neg q2, if_neg (by omega), zu_ne _ _ _ _ q]
theorem zfl_in {α : Type} (g f : Nat → α) (k r i : Nat) (h1 : k ≤ i) (h2 : i < k + r) : zfl g f k r i = g i := if_pos ⟨h1, h2⟩
theorem zfl_out {α : Type} (g f : Nat → α) (k r i : Nat) (h : i < k ∨ k + r ≤ i) : zfl g f k r i = f i := if_neg (by omega)
