/-! ROWS: 2147483647 is prime -/
def chk (n : Nat) : Nat → Nat → Bool
  | 0, lo => !((n % (lo + 2)).beq 0)
  | k + 1, lo => chk n k lo && chk n k (lo + 2 ^ k)
theorem chk_d (n : Nat) : ∀ (k lo : Nat), chk n k lo = true → ∀ d, lo ≤ d → d < lo + 2 ^ k → ¬ n % (d + 2) = 0
  | 0, lo, h, d, h1, h2 => by
    have e : d = lo := by omega
    subst e
    unfold chk at h
    intro q
    rw [q] at h
    cases h
  | k + 1, lo, h, d, h1, h2 => by
    unfold chk at h
    rw [Bool.and_eq_true] at h
    have e : 2 ^ (k + 1) = 2 ^ k + 2 ^ k := by rw [Nat.pow_succ]; omega
    by_cases q : d < lo + 2 ^ k
    · exact chk_d n k lo h.1 d h1 q
    · exact chk_d n k (lo + 2 ^ k) h.2 d (by omega) (by omega)
theorem chk_p : chk 2147483647 16 0 = true := by decide +kernel
theorem pr_no (d : Nat) (h1 : 2 ≤ d) (h2 : d < 65538) : ¬ d ∣ 2147483647 := by
  intro h
  obtain ⟨e, rfl⟩ : ∃ e, d = e + 2 := ⟨d - 2, by omega⟩
  exact chk_d 2147483647 16 0 chk_p e (by omega) (by omega) (Nat.mod_eq_zero_of_dvd h)
theorem pr_dvd {g : Nat} (h : g ∣ 2147483647) : g = 1 ∨ g = 2147483647 := by
  obtain ⟨e, he⟩ := h
  by_cases q1 : g = 1
  · exact Or.inl q1
  · by_cases q2 : e = 1
    · exact Or.inr (by rw [q2] at he; omega)
    · exfalso
      have g0 : ¬ g = 0 := fun q => by rw [q, Nat.zero_mul] at he; omega
      have e0 : ¬ e = 0 := fun q => by rw [q, Nat.mul_zero] at he; omega
      by_cases q3 : g < 65538
      · exact pr_no g (by omega) q3 ⟨e, he⟩
      · by_cases q4 : e < 65538
        · exact pr_no e (by omega) q4 ⟨g, by rw [Nat.mul_comm]; exact he⟩
        · have : 65538 * 65538 ≤ g * e := Nat.mul_le_mul (by omega) (by omega)
          omega
theorem pr_mul {a b : Nat} (h : 2147483647 ∣ a * b) : 2147483647 ∣ a ∨ 2147483647 ∣ b := by
  rcases pr_dvd (Nat.gcd_dvd_right a 2147483647) with q | q
  · right
    have hc : Nat.Coprime 2147483647 a := by
      unfold Nat.Coprime
      rw [Nat.gcd_comm]
      exact q
    exact Nat.Coprime.dvd_of_dvd_mul_left hc h
  · left
    have h1 := Nat.gcd_dvd_left a 2147483647
    rw [q] at h1
    exact h1
theorem pr_mulI {a b : Int} (h : (2147483647 : Int) ∣ a * b) : (2147483647 : Int) ∣ a ∨ (2147483647 : Int) ∣ b := by
  have h1 : 2147483647 ∣ a.natAbs * b.natAbs := by
    rw [← Int.natAbs_mul]
    exact Int.natAbs_dvd_natAbs.mpr h
  rcases pr_mul h1 with q | q
  · exact Or.inl (Int.natAbs_dvd_natAbs.mp q)
  · exact Or.inr (Int.natAbs_dvd_natAbs.mp q)
