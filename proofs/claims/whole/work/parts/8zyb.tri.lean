/-! ROWS: a triangle with pivots has no kernel (exactly: P = 0; or with P a prime) -/
def PRI (P : Int) : Prop := ∀ a b : Int, P ∣ a * b → P ∣ a ∨ P ∣ b
theorem PRI_p : PRI 2147483647 := fun _ _ h => pr_mulI h
theorem PRI_0 : PRI 0 := by
  intro a b h
  have h1 : a * b = 0 := Int.zero_dvd.mp h
  rcases Int.mul_eq_zero.mp h1 with q | q
  · exact Or.inl (Int.zero_dvd.mpr q)
  · exact Or.inr (Int.zero_dvd.mpr q)
theorem zs_dvd {P : Int} {f : Nat → Int} : ∀ (n k : Nat), (∀ i, k ≤ i → i < k + n → P ∣ f i) → P ∣ zsum f k n
  | 0, k, _ => by unfold zsum; exact Int.dvd_zero P
  | n + 1, k, h => by
    unfold zsum
    exact Int.dvd_add (h k (by omega) (by omega)) (zs_dvd n (k + 1) (fun i h1 h2 => h i (by omega) (by omega)))
theorem zs_one {P : Int} {f : Nat → Int} : ∀ (n k r : Nat), k ≤ r → r < k + n → (∀ i, k ≤ i → i < k + n → i ≠ r → P ∣ f i) → P ∣ zsum f k n → P ∣ f r
  | 0, k, r, h1, h2, _, _ => by omega
  | n + 1, k, r, h1, h2, h, hs => by
    unfold zsum at hs
    by_cases q : r = k
    · subst q
      have h3 : P ∣ zsum f (r + 1) n := zs_dvd n (r + 1) (fun i h3 h4 => h i (by omega) (by omega) (by omega))
      exact (Int.dvd_add_left h3).mp hs
    · have h3 := h k (by omega) (by omega) (by omega)
      exact zs_one n (k + 1) r (by omega) (by omega) (fun i h4 h5 h6 => h i (by omega) (by omega) h6) ((Int.dvd_add_right h3).mp hs)
theorem zs_plus (f g : Nat → Int) : ∀ (n k : Nat), zsum (fun i => f i + g i) k n = zsum f k n + zsum g k n
  | 0, k => by unfold zsum; rfl
  | n + 1, k => by
    unfold zsum
    rw [zs_plus f g n (k + 1)]
    omega
theorem zs_times (f : Nat → Int) (a : Int) : ∀ (n k : Nat), zsum (fun i => a * f i) k n = a * zsum f k n
  | 0, k => by unfold zsum; rw [Int.mul_zero]
  | n + 1, k => by
    unfold zsum
    rw [zs_times f a n (k + 1), Int.mul_add]
theorem tri_x {P : Int} (hP : PRI P) {m : Nat} {M : Nat → Nat → Int} {x : Nat → Int} (hz : ∀ r c, r < m → c < r → P ∣ M r c) (hp : ∀ r, r < m → ¬ P ∣ M r r) (hk : ∀ r, r < m → P ∣ zsum (fun c => M r c * x c) 0 m) : ∀ (t r : Nat), m ≤ r + t → r < m → P ∣ x r
  | 0, r, h1, h2 => by omega
  | t + 1, r, h1, h2 => by
    have h3 := zs_one (f := fun c => M r c * x c) m 0 r (by omega) (by omega) (fun i _ hi hne => by
      by_cases q : i < r
      · exact Int.dvd_mul_of_dvd_left (hz r i h2 q)
      · exact Int.dvd_mul_of_dvd_right (tri_x hP hz hp hk t i (by omega) (by omega))) (hk r h2)
    rcases hP _ _ h3 with q | q
    · exact absurd q (hp r h2)
    · exact q
/-- a row less a multiple of another -/
theorem ker_op {P : Int} {m : Nat} {f g h x : Nat → Int} {a b : Int} (hf : P ∣ zsum (fun c => f c * x c) 0 m) (hg : P ∣ zsum (fun c => g c * x c) 0 m) (hh : ∀ c, c < m → P ∣ h c - (f c * a - g c * b)) : P ∣ zsum (fun c => h c * x c) 0 m := by
  have e : zsum (fun c => h c * x c) 0 m = zsum (fun c => (h c - (f c * a - g c * b)) * x c) 0 m + (a * zsum (fun c => f c * x c) 0 m + (-b) * zsum (fun c => g c * x c) 0 m) := by
    rw [← zs_times, ← zs_times, ← zs_plus, ← zs_plus]
    apply zsum_congr
    intro i _ _
    grind
  rw [e]
  refine Int.dvd_add (zs_dvd m 0 (fun i _ hi => Int.dvd_mul_of_dvd_left (hh i (by omega)))) (Int.dvd_add (Int.dvd_mul_of_dvd_right hf) (Int.dvd_mul_of_dvd_right hg))
