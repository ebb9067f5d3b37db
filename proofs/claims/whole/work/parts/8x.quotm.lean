/-! QUOTIENTS: cosets of a closed part -/
theorem zns_pos {f : Nat → Nat} {m : Nat} (h : 0 < zns f 0 m) : ∃ i, i < m ∧ 0 < f i := by
  have key : ∀ r k, 0 < zns f k r → ∃ i, k ≤ i ∧ i < k + r ∧ 0 < f i := by
    intro r
    induction r with
    | zero => intro k h; simp [zns] at h
    | succ r ih =>
      intro k h
      simp only [zns] at h
      by_cases q : 0 < f k
      · exact ⟨k, by omega, by omega, q⟩
      · obtain ⟨i, h1, h2, h3⟩ := ih (k + 1) (by omega)
        exact ⟨i, by omega, by omega, h3⟩
  obtain ⟨i, h1, h2, h3⟩ := key m 0 h
  exact ⟨i, by omega, h3⟩
theorem zns_ltS {f g : Nat → Nat} {m x : Nat} (hx : x < m) (hle : ∀ i, i < m → f i ≤ g i) (hlt : f x < g x) : zns f 0 m < zns g 0 m := by
  have key : ∀ r k, k + r ≤ m → zns f k r ≤ zns g k r ∧ (k ≤ x → x < k + r → zns f k r < zns g k r) := by
    intro r
    induction r with
    | zero => intro k _; exact ⟨Nat.le_refl _, fun _ _ => by omega⟩
    | succ r ih =>
      intro k hk
      obtain ⟨i1, i2⟩ := ih (k + 1) (by omega)
      have h1 := hle k (by omega)
      simp only [zns]
      refine ⟨by omega, fun h2 h3 => ?_⟩
      by_cases q : k = x
      · subst q; omega
      · have := i2 (by omega) (by omega)
        omega
  exact (key m 0 (by omega)).2 (by omega) (by omega)
section QM
variable {T : ZT} {b : Nat}
theorem s_rev (hW : WT T) (hG : gdT T = true) {i h k : Nat} (hi : i < T.1) (hh : h < T.1) (hk : k < T.1) : T.2.1 i h k * szT T k = T.2.1 k (T.2.2 h) i * szT T i := by
  have hk' := hW.2.2.2.1 k hk
  have hi' := hW.2.2.2.1 i hi
  have hh' := hW.2.2.2.1 h hh
  have e := g1T hG hi hh hk' hW.1
  rw [zns_one hk (fun a ha hne => by
    have : ¬ 0 < T.2.1 a (T.2.2 k) 0 := by
      rw [g2T hG ha hk']
      intro h2
      apply hne
      rw [← rvT_rv hW hG ha, h2, rvT_rv hW hG hk]
    rw [show T.2.1 a (T.2.2 k) 0 = 0 by omega, Nat.mul_zero]), zns_one hi' (fun a ha hne => by
    have : ¬ 0 < T.2.1 i a 0 := by
      rw [g2T hG hi ha]
      intro h2
      exact hne h2.symm
    rw [show T.2.1 i a 0 = 0 by omega, Nat.mul_zero])] at e
  have e3 := g3T hG hh' hk hi
  rw [rvT_rv hW hG hh] at e3
  rw [hW.2.2.2.2.1 k (T.2.2 h) i, ← e3]
  exact e
theorem row_sum (hW : WT T) (hG : gdT T = true) {h k : Nat} (hh : h < T.1) (hk : k < T.1) : zns (fun j => T.2.1 h j k) 0 T.1 = szT T h := by
  have hh' := hW.2.2.2.1 h hh
  have h1 := szT_pos hW hG hk
  apply Nat.eq_of_mul_eq_mul_right h1
  rw [← zns_timesR]
  have e : zns (fun j => T.2.1 h j k * szT T k) 0 T.1 = zns (fun j => T.2.1 k (T.2.2 h) j * szT T j) 0 T.1 := by
    apply zns_congr
    intro j _ hj
    rw [hW.2.2.2.2.1 h j k, s_rev hW hG (by omega) hh hk]
  rw [e, ← g4T hG hk hh', szT_rv hW hG hh, Nat.mul_comm]
theorem PR_rev (hW : WT T) (hG : gdT T = true) (hP : PR T b) {h : Nat} (hh : h < T.1) (hb : b.testBit h = true) : b.testBit (T.2.2 h) = true := by
  cases hq : b.testBit (T.2.2 h) with
  | true => rfl
  | false =>
    exfalso
    have h0 := hW.1
    have hh' := hW.2.2.2.1 h hh
    have hs := szT_pos hW hG hh
    -- X k: what h and the part give of k
    have hX : ∀ k, k < T.1 → zns (fun j => if b.testBit j = true then T.2.1 h j k else 0) 0 T.1 ≤ szT T h := by
      intro k hk
      rw [← row_sum hW hG hh hk]
      have : ∀ r q, zns (fun j => if b.testBit j = true then T.2.1 h j k else 0) q r ≤ zns (fun j => T.2.1 h j k) q r := by
        intro r
        induction r with
        | zero => intro q; exact Nat.le_refl _
        | succ r ih =>
          intro q
          have := ih (q + 1)
          simp only [zns]
          by_cases c : b.testBit q = true
          · rw [if_pos c]; omega
          · rw [if_neg c]; omega
      exact this _ _
    have hX0 : zns (fun j => if b.testBit j = true then T.2.1 h j 0 else 0) 0 T.1 = 0 := by
      apply zns_z
      intro j _ hj
      by_cases c : b.testBit j = true
      · rw [if_pos c]
        have : ¬ 0 < T.2.1 h j 0 := by
          rw [g2T hG hh (by omega)]
          intro e
          rw [e, c] at hq
          cases hq
        omega
      · rw [if_neg c]
    have lt := zns_ltS (f := fun k => if b.testBit k = true then szT T k * zns (fun j => if b.testBit j = true then T.2.1 h j k else 0) 0 T.1 else 0) (g := fun k => if b.testBit k = true then szT T k * szT T h else 0) (m := T.1) (x := 0) (by omega) (fun k hk => by
      by_cases c : b.testBit k = true
      · simp only [if_pos c]; exact Nat.mul_le_mul_left _ (hX k hk)
      · simp only [if_neg c]; omega) (by
      simp only [hP.1, if_true]
      rw [hX0, szT_0 hW]
      omega)
    -- both are size h times the size of the part
    have e1 : zns (fun k => if b.testBit k = true then szT T k * zns (fun j => if b.testBit j = true then T.2.1 h j k else 0) 0 T.1 else 0) 0 T.1 = zns (fun j => if b.testBit j = true then szT T h * szT T j else 0) 0 T.1 := by
      have a1 : zns (fun k => if b.testBit k = true then szT T k * zns (fun j => if b.testBit j = true then T.2.1 h j k else 0) 0 T.1 else 0) 0 T.1 = zns (fun k => zns (fun j => if b.testBit j = true then T.2.1 h j k * szT T k else 0) 0 T.1) 0 T.1 := by
        apply zns_congr
        intro k _ hk
        by_cases c : b.testBit k = true
        · simp only [if_pos c]
          rw [← zns_times]
          apply zns_congr
          intro j _ hj
          by_cases c2 : b.testBit j = true
          · rw [if_pos c2, if_pos c2, Nat.mul_comm]
          · rw [if_neg c2, if_neg c2, Nat.mul_zero]
        · simp only [if_neg c]
          symm
          apply zns_z
          intro j _ hj
          by_cases c2 : b.testBit j = true
          · rw [if_pos c2]
            have : T.2.1 h j k = 0 := by
              by_cases c3 : T.2.1 h j k = 0
              · exact c3
              · exact absurd (hP.2 h j k hh (by omega) (by omega) hb c2 c3) c
            rw [this, Nat.zero_mul]
          · rw [if_neg c2]
      rw [a1, zns_swap]
      apply zns_congr
      intro j _ hj
      by_cases c2 : b.testBit j = true
      · simp only [if_pos c2]
        rw [g4T hG hh (by omega)]
      · simp only [if_neg c2]
        exact zns_0 _ _
    have e2 : zns (fun k => if b.testBit k = true then szT T k * szT T h else 0) 0 T.1 = zns (fun j => if b.testBit j = true then szT T h * szT T j else 0) 0 T.1 := by
      apply zns_congr
      intro k _ _
      rw [Nat.mul_comm]
    omega
/-- k is in the coset of i -/
def rB (T : ZT) (b i k : Nat) : Bool := zany (fun h => b.testBit h && decide (0 < T.2.1 i h k)) 0 T.1
theorem rB_iff (i k : Nat) : rB T b i k = true ↔ ∃ h, h < T.1 ∧ b.testBit h = true ∧ 0 < T.2.1 i h k := by
  unfold rB
  rw [zany_iff]
  constructor
  · rintro ⟨h, _, h2, h3⟩
    rw [Bool.and_eq_true, decide_eq_true_eq] at h3
    exact ⟨h, by omega, h3.1, h3.2⟩
  · rintro ⟨h, h1, h2, h3⟩
    exact ⟨h, by omega, by omega, by rw [Bool.and_eq_true, decide_eq_true_eq]; exact ⟨h2, h3⟩⟩
theorem rB_refl (hW : WT T) (hP : PR T b) {i : Nat} (hi : i < T.1) : rB T b i i = true := by
  rw [rB_iff]
  refine ⟨0, hW.1, hP.1, ?_⟩
  rw [hW.2.2.2.2.1, hW.2.2.2.2.2.2.1 i i hi, if_pos rfl]
  omega
theorem rB_symm (hW : WT T) (hG : gdT T = true) (hP : PR T b) {i k : Nat} (hi : i < T.1) (hk : k < T.1) (h : rB T b i k = true) : rB T b k i = true := by
  rw [rB_iff] at h ⊢
  obtain ⟨h, h1, h2, h3⟩ := h
  refine ⟨T.2.2 h, hW.2.2.2.1 h h1, PR_rev hW hG hP h1 h2, ?_⟩
  have e := s_rev hW hG hi h1 hk
  have h4 := szT_pos hW hG hk
  have h5 : 0 < T.2.1 i h k * szT T k := Nat.mul_pos h3 h4
  rw [e] at h5
  exact Nat.pos_of_mul_pos_right h5
theorem rB_trans (hW : WT T) (hG : gdT T = true) (hP : PR T b) {i k l : Nat} (hi : i < T.1) (hk : k < T.1) (hl : l < T.1) (h : rB T b i k = true) (h' : rB T b k l = true) : rB T b i l = true := by
  rw [rB_iff] at h h' ⊢
  obtain ⟨x, h1, h2, h3⟩ := h
  obtain ⟨y, h4, h5, h6⟩ := h'
  have e := g1T hG hi h1 h4 hl
  have h7 : 0 < zns (fun a => T.2.1 i x a * T.2.1 a y l) 0 T.1 := Nat.lt_of_lt_of_le (Nat.mul_pos h3 h6) (zns_ge (f := fun a => T.2.1 i x a * T.2.1 a y l) T.1 0 k (by omega) (by omega))
  rw [e] at h7
  obtain ⟨z, h8, h9⟩ := zns_pos h7
  have h10 : 0 < T.2.1 x y z := Nat.pos_of_mul_pos_right h9
  have h11 : 0 < T.2.1 i z l := Nat.pos_of_mul_pos_left h9
  exact ⟨z, h8, hP.2 x y z h1 h4 h8 h2 h5 (by omega), h11⟩
end QM
