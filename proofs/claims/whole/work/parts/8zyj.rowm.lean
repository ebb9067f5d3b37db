/-! ROWS: what they are; there are no more than things -/
theorem zs_z {f : Nat → Int} : ∀ (n k : Nat), (∀ i, k ≤ i → i < k + n → f i = 0) → zsum f k n = 0
  | 0, _, _ => rfl
  | n + 1, k, h => by
    unfold zsum
    rw [h k (by omega) (by omega), zs_z n (k + 1) (fun i h1 h2 => h i (by omega) (by omega))]; rfl
theorem zs_at {f : Nat → Int} (j : Nat) : ∀ (n k : Nat), k ≤ j → j < k + n → (∀ i, k ≤ i → i < k + n → i ≠ j → f i = 0) → zsum f k n = f j
  | 0, k, h1, h2, _ => by omega
  | n + 1, k, h1, h2, h => by
    unfold zsum
    by_cases q : k = j
    · subst q
      rw [zs_z n (k + 1) (fun i h3 h4 => h i (by omega) (by omega) (by omega)), Int.add_zero]
    · rw [h k (by omega) (by omega) q, zs_at j n (k + 1) (by omega) (by omega) (fun i h3 h4 => h i (by omega) (by omega)), Int.zero_add]
theorem zs_last (f : Nat → Int) : ∀ (n k : Nat), zsum f k (n + 1) = zsum f k n + f (k + n)
  | 0, k => by simp [zsum]
  | n + 1, k => by
    have h := zs_last f n (k + 1)
    rw [show k + 1 + n = k + (n + 1) by omega] at h
    rw [show zsum f k (n + 1 + 1) = f k + zsum f (k + 1) (n + 1) from rfl, h, show zsum f k (n + 1) = f k + zsum f (k + 1) n from rfl]
    omega
theorem zs_swap (f : Nat → Nat → Int) (q t : Nat) : ∀ (r k : Nat), zsum (fun i => zsum (fun j => f i j) q t) k r = zsum (fun j => zsum (fun i => f i j) k r) q t
  | 0, k => by
    simp only [zsum]
    exact (zs_z t q (fun _ _ _ => rfl)).symm
  | r + 1, k => by
    simp only [zsum]
    rw [zs_swap f q t r (k + 1), ← zs_plus]
theorem zs_shift (f : Nat → Int) : ∀ (n k : Nat), zsum (fun p => f (p + 1)) k n = zsum f (k + 1) n
  | 0, _ => rfl
  | n + 1, k => by
    simp only [zsum]
    rw [zs_shift f n (k + 1)]
theorem zs_skip (f : Nat → Int) (p0 : Nat) : ∀ (n k : Nat), k ≤ p0 → p0 ≤ k + n → zsum f k (n + 1) = zsum (fun p => f (if p < p0 then p else p + 1)) k n + f p0
  | 0, k, h1, h2 => by
    have e : p0 = k := by omega
    subst e
    simp [zsum]
  | n + 1, k, h1, h2 => by
    by_cases q : k = p0
    · subst q
      rw [zsum_congr (g := fun p => f (p + 1)) (n + 1) k (fun i h3 h4 => by simp only [show ¬ i < k by omega, if_false]), zs_shift, Int.add_comm]
      rfl
    · rw [show zsum f k (n + 1 + 1) = f k + zsum f (k + 1) (n + 1) from rfl, zs_skip f p0 n (k + 1) (by omega) (by omega)]
      simp only [zsum, show k < p0 by omega, if_true]
      omega
theorem dimn : ∀ (m r : Nat) (X : Nat → Nat → Int), m < r → ∃ C : Nat → Int, (∃ p, p < r ∧ C p ≠ 0) ∧ ∀ j, j < m → zsum (fun p => C p * X p j) 0 r = 0
  | 0, r, X, h => ⟨fun _ => 1, ⟨0, h, by decide⟩, fun j hj => by omega⟩
  | m + 1, 0, X, h => by omega
  | m + 1, r + 1, X, h => by
    by_cases q : ∃ p, p < r + 1 ∧ X p m ≠ 0
    · obtain ⟨p0, h1, h2⟩ := q
      obtain ⟨C, ⟨p, hp, hC⟩, hs⟩ := dimn m r (fun p j => X p0 m * X (if p < p0 then p else p + 1) j - X (if p < p0 then p else p + 1) m * X p0 j) (by omega)
      refine ⟨fun p => if p = p0 then -zsum (fun q => C q * X (if q < p0 then q else q + 1) m) 0 r else C (if p < p0 then p else p - 1) * X p0 m, ⟨if p < p0 then p else p + 1, by split <;> omega, ?_⟩, fun j hj => ?_⟩
      · by_cases q : p < p0
        · simp only [q, if_true, show ¬ p = p0 by omega, if_false]
          exact Int.mul_ne_zero hC h2
        · simp only [q, if_false, show ¬ p + 1 = p0 by omega, show ¬ p + 1 < p0 by omega, Nat.add_sub_cancel]
          exact Int.mul_ne_zero hC h2
      · rw [zs_skip _ p0 r 0 (by omega) (by omega)]
        simp only [if_true]
        have e : zsum (fun p => (if (if p < p0 then p else p + 1) = p0 then -zsum (fun q => C q * X (if q < p0 then q else q + 1) m) 0 r else C (if (if p < p0 then p else p + 1) < p0 then (if p < p0 then p else p + 1) else (if p < p0 then p else p + 1) - 1) * X p0 m) * X (if p < p0 then p else p + 1) j) 0 r = zsum (fun p => C p * (X p0 m * X (if p < p0 then p else p + 1) j - X (if p < p0 then p else p + 1) m * X p0 j) + X p0 j * (C p * X (if p < p0 then p else p + 1) m)) 0 r := by
          apply zsum_congr
          intro p _ _
          by_cases q : p < p0
          · simp only [q, if_true, show ¬ p = p0 by omega, if_false]
            grind
          · simp only [q, if_false, show ¬ p + 1 = p0 by omega, show ¬ p + 1 < p0 by omega, Nat.add_sub_cancel]
            grind
        rw [e, zs_plus, zs_times]
        have e2 : zsum (fun p => C p * (X p0 m * X (if p < p0 then p else p + 1) j - X (if p < p0 then p else p + 1) m * X p0 j)) 0 r = 0 := by
          by_cases q : j = m
          · subst q
            apply zs_z
            intro i _ _
            rw [Int.mul_comm (X p0 j), Int.sub_self, Int.mul_zero]
          · exact hs j (by omega)
        rw [e2]
        grind
    · obtain ⟨C, hC, hs⟩ := dimn m (r + 1) X (by omega)
      refine ⟨C, hC, fun j hj => ?_⟩
      by_cases q2 : j = m
      · subst q2
        apply zs_z
        intro i _ hi
        have : X i j = 0 := by
          by_cases q3 : X i j = 0
          · exact q3
          · exact absurd ⟨i, by omega, q3⟩ q
        rw [this, Int.mul_zero]
      · exact hs j (by omega)
def RH (T : ZT) (x : Nat → Int) : Prop := x 0 = 1 ∧ ∀ i j, i < T.1 → j < T.1 → x i * x j = zsum (fun k => (T.2.1 i j k : Int) * x k) 0 T.1
theorem ded {T : ZT} (hW : WT T) : ∀ (r : Nat) (X : Nat → Nat → Int) (C : Nat → Int), (∀ p, p < r → RH T (X p)) → (∀ p q, p < q → q < r → ∃ j, j < T.1 ∧ X p j ≠ X q j) → (∀ j, j < T.1 → zsum (fun p => C p * X p j) 0 r = 0) → ∀ p, p < r → C p = 0
  | 0, _, _, _, _, _, p, hp => by omega
  | r + 1, X, C, hX, hd, hs, p, hp => by
    have key : ∀ j k, j < T.1 → k < T.1 → zsum (fun p => C p * (X p j - X r j) * X p k) 0 r = 0 := by
      intro j k hj hk
      have e1 : zsum (fun p => C p * (X p j * X p k)) 0 (r + 1) = 0 := by
        rw [zsum_congr (g := fun p => zsum (fun l => (T.2.1 j k l : Int) * (C p * X p l)) 0 T.1) (r + 1) 0 (fun p _ hp => by
          rw [(hX p (by omega)).2 j k hj hk, ← zs_times]
          apply zsum_congr
          intro l _ _
          grind), zs_swap]
        apply zs_z
        intro l _ hl
        rw [zs_times, hs l (by omega), Int.mul_zero]
      have e2 := hs k hk
      have e3 : zsum (fun p => C p * (X p j - X r j) * X p k) 0 (r + 1) = zsum (fun p => C p * (X p j * X p k)) 0 (r + 1) + (-X r j) * zsum (fun p => C p * X p k) 0 (r + 1) := by
        rw [← zs_times, ← zs_plus]
        apply zsum_congr
        intro p _ _
        grind
      rw [e1, e2, zs_last, Nat.zero_add, Int.sub_self, Int.mul_zero, Int.zero_mul, Int.add_zero, Int.mul_zero, Int.add_zero] at e3
      exact e3
    have low : ∀ p, p < r → C p = 0 := by
      intro p hp
      obtain ⟨j, hj, hne⟩ := hd p r hp (by omega)
      have h1 := ded hW r X (fun p => C p * (X p j - X r j)) (fun p hp => hX p (by omega)) (fun p q h1 h2 => hd p q h1 (by omega)) (fun k hk => key j k hj hk) p hp
      rcases Int.mul_eq_zero.mp h1 with h2 | h2
      · exact h2
      · exact absurd (by omega) hne
    by_cases q : p < r
    · exact low p q
    · have e : p = r := by omega
      subst e
      have h1 := hs 0 hW.1
      rw [zs_last, zs_z p 0 (fun i _ hi => by rw [low i (by omega), Int.zero_mul]), Nat.zero_add, (hX p (by omega)).1, Int.zero_add, Int.mul_one] at h1
      exact h1
def irT (T : ZT) (x : Nat → Int) : Bool := zall (fun i => zall (fun j => decide (x i * x j = zsum (fun k => (T.2.1 i j k : Int) * x k) 0 T.1)) i (T.1 - i)) 1 (T.1 - 1)
theorem irT_iff {T : ZT} (hW : WT T) {x : Nat → Int} (h0 : x 0 = 1) : irT T x = true ↔ RH T x := by
  unfold irT
  rw [zall_iff]
  constructor
  · intro h
    refine ⟨h0, ?_⟩
    have hz : ∀ j, j < T.1 → x 0 * x j = zsum (fun k => (T.2.1 0 j k : Int) * x k) 0 T.1 := by
      intro j hj
      rw [zs_at (f := fun k => (T.2.1 0 j k : Int) * x k) j T.1 0 (by omega) (by omega) (fun k _ _ hk => by
        rw [hW.2.2.2.2.2.2.1 j k hj, if_neg (by omega)]
        simp)]
      rw [hW.2.2.2.2.2.2.1 j j hj, if_pos rfl, h0]
      simp
    have hle : ∀ i j, i ≤ j → i < T.1 → j < T.1 → x i * x j = zsum (fun k => (T.2.1 i j k : Int) * x k) 0 T.1 := by
      intro i j hij hi hj
      by_cases q : i = 0
      · subst q; exact hz j hj
      · have h1 := h i (by omega) (by omega)
        rw [zall_iff] at h1
        have h2 := h1 j hij (by omega)
        exact of_decide_eq_true h2
    intro i j hi hj
    by_cases q : i ≤ j
    · exact hle i j q hi hj
    · rw [Int.mul_comm, hle j i (by omega) hj hi]
      apply zsum_congr
      intro k _ _
      rw [hW.2.2.2.2.1 j i k]
  · intro h i h1 h2
    rw [zall_iff]
    intro j h3 h4
    exact decide_eq_true (h.2 i j (by omega) (by omega))
def exs (T : ZT) : Nat → Nat → (Nat → Int) → List (Nat → Int)
  | 0, _, x => if irT T x = true then [x] else []
  | r + 1, k, x => cat (fun q => exs T r (k + 1) (zu x k ((q : Int) - (szT T k : Int)))) 0 (2 * szT T k + 1)
def xo : Nat → Int := fun i => if i = 0 then 1 else 0
def RW (T : ZT) : List (Nat → Int) := exs T (T.1 - 1) 1 xo
theorem exs_mem (T : ZT) : ∀ (r k : Nat) (x y : Nat → Int), k + r = T.1 → y ∈ exs T r k x → (∀ j, j < k → y j = x j) ∧ irT T y = true ∧ ∀ j, k ≤ j → j < T.1 → -(szT T j : Int) ≤ y j ∧ y j ≤ (szT T j : Int)
  | 0, k, x, y, hk, h => by
    unfold exs at h
    by_cases q : irT T x = true
    · rw [if_pos q, List.mem_singleton] at h
      subst h
      exact ⟨fun _ _ => rfl, q, fun j h1 h2 => by omega⟩
    · rw [if_neg q] at h
      simp at h
  | r + 1, k, x, y, hk, h => by
    simp only [exs] at h
    obtain ⟨q, h1, h2, h3⟩ := cat_mem _ _ h
    obtain ⟨g1, g2, g3⟩ := exs_mem T r (k + 1) _ y (by omega) h3
    refine ⟨fun j hj => by rw [g1 j (by omega), zu_ne _ _ _ _ (by omega)], g2, fun j h4 h5 => ?_⟩
    by_cases q2 : j = k
    · subst q2
      rw [g1 j (by omega), zu_eq]
      omega
    · exact g3 j (by omega) h5
theorem RW_mem {T : ZT} (hW : WT T) {y : Nat → Int} (h : y ∈ RW T) : RH T y ∧ ∀ j, j < T.1 → -(szT T j : Int) ≤ y j ∧ y j ≤ (szT T j : Int) := by
  have h1 := hW.1
  obtain ⟨g1, g2, g3⟩ := exs_mem T (T.1 - 1) 1 xo y (by omega) h
  have h0 : y 0 = 1 := by rw [g1 0 (by omega)]; rfl
  refine ⟨(irT_iff hW h0).mp g2, fun j hj => ?_⟩
  by_cases q : j = 0
  · subst q
    rw [szT_0 hW, h0]
    omega
  · exact g3 j (by omega) hj
theorem cat_pw {α : Type} {P : α → α → Prop} {F : Nat → List α} : ∀ (t q : Nat), (∀ y, (F y).Pairwise P) → (∀ y z, y < z → ∀ a, a ∈ F y → ∀ b, b ∈ F z → P a b) → (cat F q t).Pairwise P
  | 0, _, _, _ => List.Pairwise.nil
  | t + 1, q, h1, h2 => by
    simp only [cat]
    rw [List.pairwise_append]
    refine ⟨h1 q, cat_pw t (q + 1) h1 h2, fun a ha b hb => ?_⟩
    obtain ⟨z, h3, h4, h5⟩ := cat_mem _ _ hb
    exact h2 q z (by omega) a ha b h5
theorem exs_pw (T : ZT) : ∀ (r k : Nat) (x : Nat → Int), k + r = T.1 → (exs T r k x).Pairwise (fun y z => ∃ j, j < T.1 ∧ y j ≠ z j)
  | 0, k, x, hk => by
    unfold exs
    split
    · exact List.pairwise_singleton _ _
    · exact List.Pairwise.nil
  | r + 1, k, x, hk => by
    simp only [exs]
    refine cat_pw _ _ (fun y => exs_pw T r (k + 1) _ (by omega)) (fun y z hyz a ha b hb => ?_)
    have h1 := (exs_mem T r (k + 1) _ a (by omega) ha).1 k (by omega)
    have h2 := (exs_mem T r (k + 1) _ b (by omega) hb).1 k (by omega)
    rw [zu_eq] at h1 h2
    exact ⟨k, by omega, by omega⟩
theorem gD_in {α : Type} {l : List α} {p : Nat} (d : α) (h : p < l.length) : l.getD p d = l[p] := by
  simp [List.getD_eq_getElem?_getD, h]
theorem RW_get {T : ZT} {p : Nat} (hp : p < (RW T).length) : (RW T).getD p xo ∈ RW T := by
  rw [gD_in _ hp]
  exact List.getElem_mem hp
theorem RW_ne {T : ZT} (hW : WT T) {p q : Nat} (h1 : p < q) (h2 : q < (RW T).length) : ∃ j, j < T.1 ∧ (RW T).getD p xo j ≠ (RW T).getD q xo j := by
  have h3 := hW.1
  have h := exs_pw T (T.1 - 1) 1 xo (by omega)
  rw [List.pairwise_iff_getElem] at h
  obtain ⟨j, g1, g2⟩ := h p q (show p < (RW T).length by omega) h2 h1
  refine ⟨j, g1, ?_⟩
  rw [gD_in _ (show p < (RW T).length by omega), gD_in _ h2]
  exact g2
theorem RW_len {T : ZT} (hW : WT T) : (RW T).length ≤ T.1 := by
  rcases Nat.lt_or_ge T.1 (RW T).length with q | q
  · exfalso
    obtain ⟨C, ⟨p, h1, h2⟩, h3⟩ := dimn T.1 (RW T).length (fun p => (RW T).getD p xo) q
    exact h2 (ded hW (RW T).length (fun p => (RW T).getD p xo) C (fun p hp => (RW_mem hW (RW_get hp)).1) (fun p q hp hq => RW_ne hW hp hq) h3 p h1)
  · exact q
theorem cat_last {α : Type} (F : Nat → List α) : ∀ (t q : Nat), cat F q (t + 1) = cat F q t ++ F (q + t)
  | 0, q => by simp [cat]
  | t + 1, q => by
    rw [show cat F q (t + 1 + 1) = F q ++ cat F (q + 1) (t + 1) from rfl, cat_last F t (q + 1), ← List.append_assoc, show q + 1 + t = q + (t + 1) by omega]
    rfl
theorem RH_sz {T : ZT} (hW : WT T) (hG : gdT T = true) {x : Nat → Int} (hx : ∀ j, j < T.1 → x j = (szT T j : Int)) : RH T x := by
  refine ⟨by rw [hx 0 hW.1, szT_0 hW]; rfl, fun i j hi hj => ?_⟩
  rw [hx i hi, hx j hj]
  have h := g4T hG hi hj
  have e : ∀ (n k : Nat) (f : Nat → Nat), ((zns f k n : Nat) : Int) = zsum (fun i => (f i : Int)) k n := by
    intro n
    induction n with
    | zero => intro k f; rfl
    | succ n ih =>
      intro k f
      simp only [zns, zsum]
      rw [← ih]
      omega
  rw [← Int.natCast_mul, h, e]
  apply zsum_congr
  intro k _ hk
  rw [hx k (by omega), Int.natCast_mul]
theorem exs_last {T : ZT} (hW : WT T) (hG : gdT T = true) : ∀ (r k : Nat) (x : Nat → Int), k + r = T.1 → (∀ j, j < k → x j = (szT T j : Int)) → ∃ L y, exs T r k x = L ++ [y] ∧ ∀ j, j < T.1 → y j = (szT T j : Int)
  | 0, k, x, hk, hx => by
    have h1 : RH T x := RH_sz hW hG (fun j hj => hx j (by omega))
    refine ⟨[], x, ?_, fun j hj => hx j (by omega)⟩
    unfold exs
    rw [if_pos ((irT_iff hW h1.1).mpr h1)]
    rfl
  | r + 1, k, x, hk, hx => by
    obtain ⟨L, y, h1, h2⟩ := exs_last hW hG r (k + 1) (zu x k (((2 * szT T k : Nat) : Int) - (szT T k : Int))) (by omega) (fun j hj => by
      by_cases q : j = k
      · subst q; rw [zu_eq]; omega
      · rw [zu_ne _ _ _ _ q]; exact hx j (by omega))
    refine ⟨cat (fun q => exs T r (k + 1) (zu x k ((q : Int) - (szT T k : Int)))) 0 (2 * szT T k) ++ L, y, ?_, h2⟩
    simp only [exs]
    rw [cat_last, Nat.zero_add, h1, List.append_assoc]
theorem RW_last {T : ZT} (hW : WT T) (hG : gdT T = true) : 1 ≤ (RW T).length ∧ ∀ j, j < T.1 → (RW T).getD ((RW T).length - 1) xo j = (szT T j : Int) := by
  have h0 := hW.1
  obtain ⟨L, y, h1, h2⟩ := exs_last hW hG (T.1 - 1) 1 xo (by omega) (fun j hj => by
    have e : j = 0 := by omega
    subst e
    rw [szT_0 hW]; rfl)
  unfold RW
  rw [h1]
  refine ⟨by simp, fun j hj => ?_⟩
  simp [List.getD_eq_getElem?_getD]
  exact h2 j hj
