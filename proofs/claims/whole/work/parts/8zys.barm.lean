/-! ROWS: the reference's elimination, its numbers -/
theorem d2b {e f h i : Int} {S : Nat} (h1 : e.natAbs + h.natAbs ≤ S) (h2 : f.natAbs + i.natAbs ≤ S) : (e * i - f * h).natAbs ≤ S * S := by
  have g1 : (e * i).natAbs = e.natAbs * i.natAbs := Int.natAbs_mul _ _
  have g2 : (f * h).natAbs = h.natAbs * f.natAbs := by rw [Int.natAbs_mul, Nat.mul_comm]
  have g3 : (e.natAbs + h.natAbs) * (f.natAbs + i.natAbs) ≤ S * S := Nat.mul_le_mul h1 h2
  have g4 : (e.natAbs + h.natAbs) * (f.natAbs + i.natAbs) = e.natAbs * f.natAbs + e.natAbs * i.natAbs + (h.natAbs * f.natAbs + h.natAbs * i.natAbs) := by grind
  omega
theorem d3b {a b c d e f g h i : Int} {S : Nat} (h1 : a.natAbs + d.natAbs + g.natAbs ≤ S) (h2 : b.natAbs + e.natAbs + h.natAbs ≤ S) (h3 : c.natAbs + f.natAbs + i.natAbs ≤ S) : (d3 a b c d e f g h i).natAbs ≤ S * (S * S) := by
  have e1 : d3 a b c d e f g h i = a * (e * i - f * h) - d * (b * i - c * h) + g * (b * f - c * e) := by unfold d3; grind
  have k1 : (e * i - f * h).natAbs ≤ S * S := d2b (by omega) (by omega)
  have k2 : (b * i - c * h).natAbs ≤ S * S := d2b (by omega) (by omega)
  have k3 : (b * f - c * e).natAbs ≤ S * S := d2b (by omega) (by omega)
  have m1 : (a * (e * i - f * h)).natAbs ≤ a.natAbs * (S * S) := mul_ab (Nat.le_refl _) k1
  have m2 : (d * (b * i - c * h)).natAbs ≤ d.natAbs * (S * S) := mul_ab (Nat.le_refl _) k2
  have m3 : (g * (b * f - c * e)).natAbs ≤ g.natAbs * (S * S) := mul_ab (Nat.le_refl _) k3
  have m4 : (a.natAbs + d.natAbs + g.natAbs) * (S * S) ≤ S * (S * S) := Nat.mul_le_mul_right _ h1
  rw [Nat.add_mul, Nat.add_mul] at m4
  rw [e1]
  omega
theorem l4a {a b c d S : Nat} (h : a + b + c + d ≤ S) : b + c + d ≤ S := by omega
theorem l4b {a b c d S : Nat} (h : a + b + c + d ≤ S) : a + c + d ≤ S := by omega
theorem l4c {a b c d S : Nat} (h : a + b + c + d ≤ S) : a + b + d ≤ S := by omega
theorem l4d {a b c d S : Nat} (h : a + b + c + d ≤ S) : a + b + c ≤ S := by omega
theorem n4 {A B C D : Int} {x y z w S : Nat} (h1 : A.natAbs ≤ x) (h2 : B.natAbs ≤ y) (h3 : C.natAbs ≤ z) (h4 : D.natAbs ≤ w) (h : x + y + z + w ≤ S) : (A - B + C - D).natAbs ≤ S := by omega
theorem d4b {a b c d e f g h i j k l m n o p : Int} {S : Nat} (h1 : a.natAbs + e.natAbs + i.natAbs + m.natAbs ≤ S) (h2 : b.natAbs + f.natAbs + j.natAbs + n.natAbs ≤ S) (h3 : c.natAbs + g.natAbs + k.natAbs + o.natAbs ≤ S) (h4 : d.natAbs + h.natAbs + l.natAbs + p.natAbs ≤ S) : (d4 a b c d e f g h i j k l m n o p).natAbs ≤ S * (S * (S * S)) := by
  have k1 : (d3 f g h j k l n o p).natAbs ≤ S * (S * S) := d3b (l4a h2) (l4a h3) (l4a h4)
  have k2 : (d3 b c d j k l n o p).natAbs ≤ S * (S * S) := d3b (l4b h2) (l4b h3) (l4b h4)
  have k3 : (d3 b c d f g h n o p).natAbs ≤ S * (S * S) := d3b (l4c h2) (l4c h3) (l4c h4)
  have k4 : (d3 b c d f g h j k l).natAbs ≤ S * (S * S) := d3b (l4d h2) (l4d h3) (l4d h4)
  have m1 : (a * d3 f g h j k l n o p).natAbs ≤ a.natAbs * (S * (S * S)) := mul_ab (Nat.le_refl _) k1
  have m2 : (e * d3 b c d j k l n o p).natAbs ≤ e.natAbs * (S * (S * S)) := mul_ab (Nat.le_refl _) k2
  have m3 : (i * d3 b c d f g h n o p).natAbs ≤ i.natAbs * (S * (S * S)) := mul_ab (Nat.le_refl _) k3
  have m5 : (m * d3 b c d f g h j k l).natAbs ≤ m.natAbs * (S * (S * S)) := mul_ab (Nat.le_refl _) k4
  have m4 : (a.natAbs + e.natAbs + i.natAbs + m.natAbs) * (S * (S * S)) ≤ S * (S * (S * S)) := Nat.mul_le_mul_right _ h1
  rw [Nat.add_mul, Nat.add_mul, Nat.add_mul] at m4
  have e1 : d4 a b c d e f g h i j k l m n o p = a * d3 f g h j k l n o p - e * d3 b c d j k l n o p + i * d3 b c d f g h n o p - m * d3 b c d f g h j k l := by unfold d4 d3; grind
  rw [e1]
  exact n4 m1 m2 m3 m5 m4
def MK (O : Nat → Nat → Int) : Nat → Nat → Nat → Int
  | 0 => O
  | 1 => mn1 O
  | 2 => mn2 O
  | 3 => mn3 O
  | 4 => mn4 O
  | _ => fun _ _ => 0
def LDK (O : Nat → Nat → Int) : Nat → Int
  | 0 => 1
  | k + 1 => MK O k k k
/-- four numbers of a column are never too large together -/
def CS (m : Nat) (O : Nat → Nat → Int) : Prop := ∀ c, c < m → ∀ r1 r2 r3 r4 : Nat, r1 ≠ r2 → r1 ≠ r3 → r1 ≠ r4 → r2 ≠ r3 → r2 ≠ r4 → r3 ≠ r4 → (O r1 c).natAbs + (O r2 c).natAbs + (O r3 c).natAbs + (O r4 c).natAbs ≤ 120
theorem MK_b {m : Nat} {O : Nat → Nat → Int} (h : CS m O) : ∀ (k r c : Nat), k ≤ 3 → k ≤ r → k ≤ c → c < m → (MK O k r c).natAbs ≤ 120 ^ 4
  | 0, r, c, _, _, _, hc => by
    have h1 := h c hc r (r + 1) (r + 2) (r + 3) (by omega) (by omega) (by omega) (by omega) (by omega) (by omega)
    show (O r c).natAbs ≤ 120 ^ 4
    omega
  | 1, r, c, _, hr, hkc, hc => by
    have h1 := h 0 (by omega) 0 r (r + 1) (r + 2) (by omega) (by omega) (by omega) (by omega) (by omega) (by omega)
    have h2 := h c hc 0 r (r + 1) (r + 2) (by omega) (by omega) (by omega) (by omega) (by omega) (by omega)
    have h3 : (O 0 0 * O r c - O r 0 * O 0 c).natAbs ≤ 120 * 120 := by
      have := d2b (e := O 0 0) (h := O r 0) (f := O 0 c) (i := O r c) (S := 120) (by omega) (by omega)
      rw [Int.mul_comm (O r 0)]
      exact this
    show (O 0 0 * O r c - O r 0 * O 0 c).natAbs ≤ 120 ^ 4
    omega
  | 2, r, c, _, hr, hkc, hc => by
    have h0 := h 0 (by omega) 0 1 r (r + 1) (by omega) (by omega) (by omega) (by omega) (by omega) (by omega)
    have h1 := h 1 (by omega) 0 1 r (r + 1) (by omega) (by omega) (by omega) (by omega) (by omega) (by omega)
    have h2 := h c hc 0 1 r (r + 1) (by omega) (by omega) (by omega) (by omega) (by omega) (by omega)
    have h3 : (mn2 O r c).natAbs ≤ 120 * (120 * 120) := d3b (by omega) (by omega) (by omega)
    show (mn2 O r c).natAbs ≤ 120 ^ 4
    omega
  | 3, r, c, _, hr, hkc, hc => by
    have h0 := h 0 (by omega) 0 1 2 r (by omega) (by omega) (by omega) (by omega) (by omega) (by omega)
    have h1 := h 1 (by omega) 0 1 2 r (by omega) (by omega) (by omega) (by omega) (by omega) (by omega)
    have h2 := h 2 (by omega) 0 1 2 r (by omega) (by omega) (by omega) (by omega) (by omega) (by omega)
    have h3 := h c hc 0 1 2 r (by omega) (by omega) (by omega) (by omega) (by omega) (by omega)
    have h4 : (mn3 O r c).natAbs ≤ 120 * (120 * (120 * 120)) := d4b (by omega) (by omega) (by omega) (by omega)
    show (mn3 O r c).natAbs ≤ 120 ^ 4
    omega
  | k + 4, r, c, hk, _, _, _ => by omega
theorem MK_sw {O : Nat → Nat → Int} {f : Nat → Nat} : ∀ (q r c : Nat), (∀ y, y < q → f y = y) → MK (fun r => O (f r)) q r c = MK O q (f r) c
  | 0, r, c, _ => rfl
  | 1, r, c, h => by
    simp only [MK, mn1, h 0 (by omega)]
  | 2, r, c, h => by
    simp only [MK, mn2, h 0 (by omega), h 1 (by omega)]
  | 3, r, c, h => by
    simp only [MK, mn3, h 0 (by omega), h 1 (by omega), h 2 (by omega)]
  | 4, r, c, h => by
    simp only [MK, mn4, q4, dd, h 0 (by omega), h 1 (by omega), h 2 (by omega), h 3 (by omega)]
  | k + 5, r, c, h => rfl
theorem MK_x {O : Nat → Nat → Int} : ∀ (k r c : Nat), k ≤ 3 → MK O k r c * MK O k k k - MK O k r k * MK O k k c = LDK O k * MK O (k + 1) r c
  | 0, r, c, _ => by
    show O r c * O 0 0 - O r 0 * O 0 c = 1 * (O 0 0 * O r c - O r 0 * O 0 c)
    grind
  | 1, r, c, _ => mn_2 O r c
  | 2, r, c, _ => mn_3 O r c
  | 3, r, c, _ => mn_4 O r c
  | k + 4, r, c, h => by omega
/-- the numbers of the reference's elimination at step k, of a matrix O with the kernel x -/
def BSt (m k : Nat) (O : Nat → Nat → Int) (x : Nat → Int) : Prop := (∀ r, r < k → MK O r r r ≠ 0) ∧ (∀ q, q ≤ k → q < m → ∀ r, q ≤ r → r < m → zsum (fun c => MK O q r c * x c) q (m - q) = 0) ∧ CS m O ∧ x 0 = 1
theorem swp_i {u k r r' : Nat} (h : r ≠ r') : swp u k r ≠ swp u k r' := by
  unfold swp
  split <;> split <;> (try split) <;> (try split) <;> omega
theorem BSt_sw {m k u : Nat} {O : Nat → Nat → Int} {x : Nat → Int} (hk : k ≤ u) (hu : u < m) (h : BSt m k O x) : BSt m k (fun r => O (swp u k r)) x := by
  obtain ⟨h1, h2, h3, h4⟩ := h
  have hlo : ∀ y, y < k → swp u k y = y := fun y hy => by
    unfold swp
    rw [if_neg (by omega), if_neg (by omega)]
  refine ⟨fun r hr => ?_, fun q hq hqm r hqr hr => ?_, fun c hc r1 r2 r3 r4 a1 a2 a3 a4 a5 a6 => ?_, h4⟩
  · rw [MK_sw r r r (fun y hy => hlo y (by omega)), hlo r hr]
    exact h1 r hr
  · rw [zsum_congr (g := fun c => MK O q (swp u k r) c * x c) (m - q) q (fun c _ _ => by rw [MK_sw q r c (fun y hy => hlo y (by omega))])]
    refine h2 q hq hqm _ ?_ ?_
    · unfold swp
      split
      · omega
      · split <;> omega
    · unfold swp
      split
      · omega
      · split <;> omega
  · exact h3 c hc _ _ _ _ (swp_i a1) (swp_i a2) (swp_i a3) (swp_i a4) (swp_i a5) (swp_i a6)
theorem BSt_ld {m k : Nat} {O : Nat → Nat → Int} {x : Nat → Int} (h : BSt m k O x) : LDK O k ≠ 0 := by
  cases k with
  | zero => show (1 : Int) ≠ 0; decide
  | succ k => exact h.1 k (by omega)
/-- what comes before k is nothing, if what comes from k on is -/
theorem BSt_z {m k : Nat} {O : Nat → Nat → Int} {x : Nat → Int} (hk : k ≤ m) (h : BSt m k O x) (hz : ∀ c, k ≤ c → c < m → x c = 0) (hm : 0 < m) : False := by
  have key : ∀ t r, k ≤ r + t → r < m → x r = 0 := by
    intro t
    induction t with
    | zero => intro r h1 h2; exact hz r (by omega) h2
    | succ t ih =>
      intro r h1 h2
      by_cases q : k ≤ r
      · exact hz r q h2
      · have e := h.2.1 r (by omega) h2 r (Nat.le_refl _) h2
        rw [zs_at r (m - r) r (Nat.le_refl _) (by omega) (fun c h3 h4 h5 => by rw [ih c (by omega) (by omega), Int.mul_zero])] at e
        rcases Int.mul_eq_zero.mp e with e1 | e1
        · exact absurd e1 (h.1 r (by omega))
        · exact e1
  have := key k 0 (by omega) hm
  rw [h.2.2.2] at this
  omega
theorem BSt_x {m k r c : Nat} {O : Nat → Nat → Int} {x : Nat → Int} (hm : m ≤ 6) (h : BSt m k O x) (hp' : MK O k k k ≠ 0) (hr : k < r) (hrm : r < m) (hc : k < c) (hcm : c < m) : MK O k r c * MK O k k k - MK O k r k * MK O k k c = LDK O k * MK O (k + 1) r c := by
  by_cases q : k ≤ 3
  · exact MK_x k r c q
  · have e1 : k = 4 := by omega
    have e2 : r = 5 := by omega
    have e3 : c = 5 := by omega
    have e4 : m = 6 := by omega
    subst e1 e2 e3 e4
    have s1 := h.2.1 4 (by omega) (by omega) 4 (by omega) (by omega)
    have s2 := h.2.1 4 (by omega) (by omega) 5 (by omega) (by omega)
    simp only [zsum, Nat.reduceSub, Nat.reduceAdd] at s1 s2
    rw [show MK O (4 + 1) 5 5 = 0 from rfl, Int.mul_zero]
    generalize MK O 4 4 4 = p at *
    generalize MK O 4 4 5 = q1 at *
    generalize MK O 4 5 4 = q2 at *
    generalize MK O 4 5 5 = q3 at *
    by_cases z : q3 * p - q2 * q1 = 0
    · exact z
    · exfalso
      have t1 : (q3 * p - q2 * q1) * x 4 = 0 := by grind
      have t2 : (q3 * p - q2 * q1) * x 5 = 0 := by grind
      have u1 := (Int.mul_eq_zero.mp t1).resolve_left z
      have u2 := (Int.mul_eq_zero.mp t2).resolve_left z
      refine BSt_z (by omega) h (fun c h1 h2 => ?_) (by omega)
      have : c = 4 ∨ c = 5 := by omega
      rcases this with rfl | rfl
      · exact u1
      · exact u2
theorem BSt_s {m k : Nat} {O : Nat → Nat → Int} {x : Nat → Int} (hm : m ≤ 6) (hk : k < m) (h : BSt m k O x) (hp' : MK O k k k ≠ 0) : BSt m (k + 1) O x := by
  refine ⟨fun r hr => ?_, fun q hq hqm r hqr hr => ?_, h.2.2⟩
  · by_cases z : r = k
    · subst z; exact hp'
    · exact h.1 r (by omega)
  · by_cases z : q ≤ k
    · exact h.2.1 q z hqm r hqr hr
    · have e : q = k + 1 := by omega
      subst e
      have hl := BSt_ld h
      have s1 := h.2.1 k (Nat.le_refl _) hk k (Nat.le_refl _) hk
      have s2 := h.2.1 k (Nat.le_refl _) hk r (by omega) hr
      rw [show m - k = (m - (k + 1)) + 1 by omega] at s1 s2
      simp only [zsum] at s1 s2
      have e1 : LDK O k * zsum (fun c => MK O (k + 1) r c * x c) (k + 1) (m - (k + 1)) = MK O k k k * zsum (fun c => MK O k r c * x c) (k + 1) (m - (k + 1)) + (-MK O k r k) * zsum (fun c => MK O k k c * x c) (k + 1) (m - (k + 1)) := by
        rw [← zs_times, ← zs_times, ← zs_times, ← zs_plus]
        apply zsum_congr
        intro c h1 h2
        have := BSt_x hm h hp' (show k < r by omega) hr (show k < c by omega) (by omega)
        rw [← Int.mul_assoc, ← this]
        grind
      have e2 : LDK O k * zsum (fun c => MK O (k + 1) r c * x c) (k + 1) (m - (k + 1)) = 0 := by
        rw [e1]
        generalize zsum (fun c => MK O k r c * x c) (k + 1) (m - (k + 1)) = S2 at *
        generalize zsum (fun c => MK O k k c * x c) (k + 1) (m - (k + 1)) = S1 at *
        generalize MK O k k k = p at *
        generalize MK O k r k = q at *
        grind
      exact (Int.mul_eq_zero.mp e2).resolve_left hl
/-- at each step a number and what is divided fit -/
theorem BSt_b {m k r c : Nat} {O : Nat → Nat → Int} {x : Nat → Int} (h : BSt m k O x) (hr : k ≤ r) (hrm : r < m) (hc : k ≤ c) (hcm : c < m) : (MK O k r c).natAbs ≤ 2 * (120 ^ 4 * 120 ^ 4) := by
  by_cases q : k ≤ 3
  · have := MK_b h.2.2.1 k r c q hr hc hcm
    omega
  · by_cases q4 : k = 4
    · subst q4
      have e := MK_x (O := O) 3 r c (by omega)
      have hl : LDK O 3 ≠ 0 := h.1 2 (by omega)
      have b1 := MK_b h.2.2.1 3 r c (by omega) (by omega) (by omega) hcm
      have b2 := MK_b h.2.2.1 3 3 3 (by omega) (by omega) (by omega) (by omega)
      have b3 := MK_b h.2.2.1 3 r 3 (by omega) (by omega) (by omega) (by omega)
      have b4 := MK_b h.2.2.1 3 3 c (by omega) (by omega) (by omega) hcm
      have c1 := mul_ab b1 b2
      have c2 := mul_ab b3 b4
      have c3 : (LDK O 3 * MK O 4 r c).natAbs ≤ 2 * (120 ^ 4 * 120 ^ 4) := by rw [← e]; omega
      rw [Int.natAbs_mul] at c3
      have c4 : 1 * (MK O 4 r c).natAbs ≤ (LDK O 3).natAbs * (MK O 4 r c).natAbs := Nat.mul_le_mul_right _ (by omega)
      omega
    · obtain ⟨y, rfl⟩ : ∃ y, k = y + 5 := ⟨k - 5, by omega⟩
      show (0 : Int).natAbs ≤ _
      omega
theorem BSt_n {m k r c : Nat} {O : Nat → Nat → Int} {x : Nat → Int} (hm : m ≤ 6) (h : BSt m k O x) (hp' : MK O k k k ≠ 0) (hr : k < r) (hrm : r < m) (hc : k < c) (hcm : c < m) : (LDK O k * MK O (k + 1) r c).natAbs ≤ 2 * (120 ^ 4 * 120 ^ 4) ∧ (LDK O k).natAbs ≤ 120 ^ 4 := by
  by_cases q : k ≤ 3
  · have b1 := MK_b h.2.2.1 k r c q (by omega) (by omega) hcm
    have b2 := MK_b h.2.2.1 k k k q (by omega) (by omega) (by omega)
    have b3 := MK_b h.2.2.1 k r k q (by omega) (by omega) (by omega)
    have b4 := MK_b h.2.2.1 k k c q (by omega) (by omega) hcm
    have c1 := mul_ab b1 b2
    have c2 := mul_ab b3 b4
    rw [← MK_x k r c q]
    refine ⟨by omega, ?_⟩
    cases k with
    | zero => show (1 : Int).natAbs ≤ 120 ^ 4; decide
    | succ k => exact MK_b h.2.2.1 k k k (by omega) (by omega) (by omega) (by omega)
  · have e1 : k = 4 := by omega
    subst e1
    refine ⟨?_, MK_b h.2.2.1 3 3 3 (by omega) (by omega) (by omega) (by omega)⟩
    rw [show MK O (4 + 1) r c = 0 from rfl, Int.mul_zero]
    show (0 : Int).natAbs ≤ _
    omega
theorem zns_mo {f g : Nat → Nat} : ∀ (r k : Nat), (∀ i, k ≤ i → i < k + r → f i ≤ g i) → zns f k r ≤ zns g k r
  | 0, _, _ => Nat.le_refl _
  | r + 1, k, h => by
    have h1 := h k (by omega) (by omega)
    have h2 := zns_mo r (k + 1) (fun i h3 h4 => h i (by omega) (by omega))
    unfold zns
    omega
theorem zns_4 {f : Nat → Nat} {m : Nat} (hz : ∀ r, m ≤ r → f r = 0) {r1 r2 r3 r4 : Nat} (a1 : r1 ≠ r2) (a2 : r1 ≠ r3) (a3 : r1 ≠ r4) (a4 : r2 ≠ r3) (a5 : r2 ≠ r4) (a6 : r3 ≠ r4) : f r1 + f r2 + f r3 + f r4 ≤ zns f 0 m := by
  have one : ∀ y, f y ≤ zns (fun r => if r = y then f r else 0) 0 m := by
    intro y
    by_cases q : y < m
    · have := zns_ge (f := fun r => if r = y then f r else 0) m 0 y (by omega) (by omega)
      simp only [if_true] at this
      exact this
    · rw [hz y (by omega)]
      exact Nat.zero_le _
  have h1 := one r1
  have h2 := one r2
  have h3 := one r3
  have h4 := one r4
  have h5 : zns (fun r => (if r = r1 then f r else 0) + (if r = r2 then f r else 0) + (if r = r3 then f r else 0) + (if r = r4 then f r else 0)) 0 m ≤ zns f 0 m := by
    apply zns_mo
    intro r _ _
    split <;> split <;> split <;> split <;> omega
  rw [zns_plus, zns_plus, zns_plus] at h5
  omega
def OM (T : ZT) (t : Nat) (V : Int) (r c : Nat) : Int := if r < T.1 then (T.2.1 t r c : Int) - (if r = c then V else 0) else 0
theorem OM_cs {T : ZT} (hW : WT T) (hG : gdT T = true) (ho : orT T ≤ 60) {t : Nat} (ht : t < T.1) {V : Int} (hV : V.natAbs ≤ 60) : CS T.1 (OM T t V) := by
  intro c hc r1 r2 r3 r4 a1 a2 a3 a4 a5 a6
  refine Nat.le_trans (zns_4 (f := fun r => (OM T t V r c).natAbs) (m := T.1) (fun r hr => by
    unfold OM
    rw [if_neg (by omega)]
    rfl) a1 a2 a3 a4 a5 a6) ?_
  have h1 : zns (fun r => (OM T t V r c).natAbs) 0 T.1 ≤ zns (fun r => T.2.1 t r c + (if r = c then V.natAbs else 0)) 0 T.1 := by
    apply zns_mo
    intro r _ hr
    unfold OM
    rw [if_pos (by omega)]
    by_cases q : r = c
    · rw [if_pos q, if_pos q]
      omega
    · rw [if_neg q, if_neg q]
      omega
  rw [zns_plus, row_sum hW hG ht hc] at h1
  have h2 : zns (fun r => if r = c then V.natAbs else 0) 0 T.1 ≤ V.natAbs := by
    rw [zns_congr (g := fun r => if r = c then V.natAbs else 0) T.1 0 (fun _ _ _ => rfl)]
    have key : ∀ n k, zns (fun r => if r = c then V.natAbs else 0) k n ≤ V.natAbs ∧ (c < k → zns (fun r => if r = c then V.natAbs else 0) k n = 0) := by
      intro n
      induction n with
      | zero => intro k; exact ⟨Nat.zero_le _, fun _ => rfl⟩
      | succ n ih =>
        intro k
        obtain ⟨i1, i2⟩ := ih (k + 1)
        simp only [zns]
        by_cases q : k = c
        · rw [if_pos q, i2 (by omega)]
          exact ⟨by omega, fun h => by omega⟩
        · rw [if_neg q]
          exact ⟨by omega, fun h => by rw [i2 (by omega)]⟩
    exact (key T.1 0).1
  have h3 := szT_or (T := T) ht
  omega
theorem OM_bs {T : ZT} (hW : WT T) (hG : gdT T = true) (ho : orT T ≤ 60) {t : Nat} (ht : t < T.1) {V : Int} (hV : V.natAbs ≤ 60) {x : Nat → Int} (hx : RH T x) (hv : x t = V) : BSt T.1 0 (OM T t V) x := by
  refine ⟨fun r hr => by omega, fun q hq hqm r hqr hr => ?_, OM_cs hW hG ho ht hV, hx.1⟩
  have e : q = 0 := by omega
  subst e
  rw [Nat.sub_zero]
  show zsum (fun c => OM T t V r c * x c) 0 T.1 = 0
  have e1 : zsum (fun c => OM T t V r c * x c) 0 T.1 = zsum (fun c => (T.2.1 t r c : Int) * x c) 0 T.1 + zsum (fun c => -((if r = c then V else 0) * x c)) 0 T.1 := by
    rw [← zs_plus]
    apply zsum_congr
    intro c _ _
    unfold OM
    rw [if_pos hr]
    generalize (if r = c then V else 0) = w
    grind
  rw [e1, ← hx.2 t r ht hr, zs_at (f := fun c => -((if r = c then V else 0) * x c)) r T.1 0 (by omega) (by omega) (fun c _ _ hc => by
    simp only [show ¬ r = c by omega, if_false]
    simp), hv]
  simp only [if_true]
  omega
