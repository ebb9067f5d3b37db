/-! ROWS: the class asks whether a matrix has a kernel -/
def KER (m : Nat) (M : Nat → Nat → Nat) (x : Nat → Int) : Prop := ∀ r, r < m → (2147483647 : Int) ∣ zsum (fun c => (M r c : Int) * x c) 0 m
def ZBE (m k : Nat) (M : Nat → Nat → Nat) : Prop := (∀ r c, r < m → c < r → c < k → (2147483647 : Int) ∣ (M r c : Int)) ∧ ∀ r, r < k → ¬ (2147483647 : Int) ∣ (M r r : Int)
theorem swp_b {m k u r : Nat} (hk : k < m) (hu : u < m) (hr : r < m) : swp k u r < m := by
  unfold swp
  split
  · exact hu
  · split
    · exact hk
    · exact hr
theorem swp_lo {k u r : Nat} (hu : k ≤ u) (hr : r < k) : swp k u r = r := by
  unfold swp
  rw [if_neg (by omega), if_neg (by omega)]
theorem swp_hi {k u r : Nat} (hu : k ≤ u) (hr : k ≤ r) : k ≤ swp k u r := by
  unfold swp
  split
  · exact hu
  · split <;> omega
theorem SG_z {m k u : Nat} {M M1 M2 : Nat → Nat → Nat} (hk : k < m) (hu : k ≤ u) (hum : u < m) (h1 : ∀ r c, r < m → c < m → M1 r c = M (swp k u r) c) (hp : ¬ (2147483647 : Int) ∣ (M u k : Int)) (hz : ZBE m k M) (hc : CLB m k (k + 1) M1 M2) : ZBE m (k + 1) M2 := by
  have hz1 : ∀ r c, r < m → c < r → c < k → (2147483647 : Int) ∣ (M1 r c : Int) := by
    intro r c hr hc hck
    rw [h1 r c hr (by omega)]
    by_cases q : r < k
    · rw [swp_lo hu q]; exact hz.1 r c hr hc hck
    · have := swp_hi (u := u) hu (show k ≤ r by omega)
      exact hz.1 _ c (swp_b hk hum hr) (by omega) hck
  refine ⟨fun r c hr hcr hck => ?_, fun r hr => ?_⟩
  · by_cases q : c < k
    · rw [hc.1 r c hr (by omega) (Or.inr q)]
      exact hz1 r c hr hcr q
    · have e : c = k := by omega
      subst e
      have h2 := hc.2 r c (by omega) hr (Nat.le_refl _) hk
      rw [Int.mul_comm (M1 r c : Int), Int.sub_self, Int.zero_sub] at h2
      exact Int.dvd_neg.mp h2
  · by_cases q : r < k
    · rw [hc.1 r r (by omega) (by omega) (Or.inr q), h1 r r (by omega) (by omega), swp_lo hu q]
      exact hz.2 r q
    · have e : r = k := by omega
      subst e
      rw [hc.1 r r hk hk (Or.inl (by omega)), h1 r r hk hk]
      unfold swp
      rw [if_pos rfl]
      exact hp
theorem SG_k {m k u : Nat} {M M1 M2 : Nat → Nat → Nat} {x : Nat → Int} (hk : k < m) (hu : k ≤ u) (hum : u < m) (h1 : ∀ r c, r < m → c < m → M1 r c = M (swp k u r) c) (hz : ZBE m k M) (hc : CLB m k (k + 1) M1 M2) (hx : KER m M x) : KER m M2 x := by
  have hx1 : KER m M1 x := by
    intro r hr
    have h2 := hx _ (swp_b hk hum hr)
    rw [zsum_congr (g := fun c => (M (swp k u r) c : Int) * x c) m 0 (fun c _ hc => by rw [h1 r c hr (by omega)])]
    exact h2
  have hz1 : ∀ r c, k ≤ r → r < m → c < k → (2147483647 : Int) ∣ (M1 r c : Int) := by
    intro r c hkr hr hck
    rw [h1 r c hr (by omega)]
    have := swp_hi (u := u) hu hkr
    exact hz.1 _ c (swp_b hk hum hr) (by omega) hck
  intro r hr
  by_cases q : r < k + 1
  · rw [zsum_congr (g := fun c => (M1 r c : Int) * x c) m 0 (fun c _ hc2 => by rw [hc.1 r c hr (by omega) (Or.inl q)])]
    exact hx1 r hr
  · refine ker_op (a := (M1 k k : Int)) (b := (M1 r k : Int)) (hx1 r hr) (hx1 k hk) (fun c hcm => ?_)
    by_cases q2 : c < k
    · rw [hc.1 r c hr hcm (Or.inr q2)]
      have d1 := hz1 r c (by omega) hr q2
      have d2 := hz1 k c (Nat.le_refl _) hk q2
      exact Int.dvd_sub d1 (Int.dvd_sub (Int.dvd_mul_of_dvd_left d1) (Int.dvd_mul_of_dvd_left d2))
    · have h2 := hc.2 r c (by omega) hr (by omega) hcm
      have h3 := Int.dvd_neg.mpr h2
      rw [Int.neg_sub] at h3
      exact h3
