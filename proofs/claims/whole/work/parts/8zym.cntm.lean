/-! ROWS: how often they count, as fractions in lowest terms -/
def zpd (f : Nat → Nat) (k : Nat) : Nat → Nat
  | 0 => 1
  | r + 1 => f k * zpd f (k + 1) r
theorem zpd_dvd {f : Nat → Nat} {i : Nat} : ∀ (r k : Nat), k ≤ i → i < k + r → f i ∣ zpd f k r
  | 0, k, h1, h2 => by omega
  | r + 1, k, h1, h2 => by
    unfold zpd
    by_cases q : i = k
    · subst q; exact Nat.dvd_mul_right _ _
    · exact Nat.dvd_mul_left_of_dvd (zpd_dvd r (k + 1) (by omega) (by omega)) _
theorem zpd_pos {f : Nat → Nat} : ∀ (r k : Nat), (∀ i, k ≤ i → i < k + r → 1 ≤ f i) → 1 ≤ zpd f k r
  | 0, k, h => Nat.le_refl _
  | r + 1, k, h => by
    unfold zpd
    exact Nat.mul_pos (h k (by omega) (by omega)) (zpd_pos r (k + 1) (fun i h1 h2 => h i (by omega) (by omega)))
theorem p7_le (x : Nat) (hx : x ≤ 60) : x ^ 7 ≤ 9766 * 2 ^ x := by
  have key : ∀ x : Fin 61, x.1 ^ 7 ≤ 9766 * 2 ^ x.1 := by decide +kernel
  exact key ⟨x, by omega⟩
theorem zpd_7 {f : Nat → Nat} : ∀ (r k : Nat), (∀ i, k ≤ i → i < k + r → f i ≤ 60) → (zpd f k r) ^ 7 ≤ 9766 ^ r * 2 ^ zns f k r
  | 0, k, h => by simp [zpd, zns]
  | r + 1, k, h => by
    unfold zpd zns
    rw [Nat.mul_pow, Nat.pow_succ 9766 r, Nat.pow_add, show 9766 ^ r * 9766 * (2 ^ f k * 2 ^ zns f (k + 1) r) = (9766 * 2 ^ f k) * (9766 ^ r * 2 ^ zns f (k + 1) r) by grind]
    exact Nat.mul_le_mul (p7_le _ (h k (by omega) (by omega))) (zpd_7 r (k + 1) (fun i h1 h2 => h i (by omega) (by omega)))
def pdT (T : ZT) : Nat := zpd (szT T) 0 T.1
def wtT (T : ZT) (k : Nat) : Nat := pdT T / szT T k
theorem pd_le {T : ZT} (hW : WT T) (ho : orT T ≤ 60) : pdT T ≤ 1000100 := by
  rcases Nat.lt_or_ge 1000100 (pdT T) with q | q
  · exfalso
    have h6 := hW.2.1
    have h1 : (pdT T) ^ 7 ≤ 9766 ^ T.1 * 2 ^ orT T := zpd_7 T.1 0 (fun i _ hi => by have := szT_or (T := T) (show i < T.1 by omega); omega)
    have h2 : 9766 ^ T.1 * 2 ^ orT T ≤ 9766 ^ 6 * 2 ^ 60 := Nat.mul_le_mul (Nat.pow_le_pow_right (by omega) h6) (Nat.pow_le_pow_right (by omega) ho)
    have h3 : 1000101 ^ 7 ≤ (pdT T) ^ 7 := Nat.pow_le_pow_left (by omega) 7
    have h4 : 9766 ^ 6 * 2 ^ 60 < 1000101 ^ 7 := by decide +kernel
    omega
  · exact q
theorem pd_pos {T : ZT} (hW : WT T) (hG : gdT T = true) : 1 ≤ pdT T := zpd_pos T.1 0 (fun i _ hi => szT_pos hW hG (by omega))
theorem wt_mul {T : ZT} {k : Nat} (hk : k < T.1) : wtT T k * szT T k = pdT T := Nat.div_mul_cancel (zpd_dvd T.1 0 (by omega) (by omega))
theorem wt_pos {T : ZT} (hW : WT T) (hG : gdT T = true) {k : Nat} (hk : k < T.1) : 1 ≤ wtT T k := by
  have h1 := wt_mul hk
  have h2 := pd_pos hW hG
  rcases Nat.eq_zero_or_pos (wtT T k) with q | q
  · rw [q, Nat.zero_mul] at h1
    omega
  · exact q
theorem wt_le {T : ZT} (hW : WT T) (ho : orT T ≤ 60) (k : Nat) : wtT T k ≤ 1000100 := Nat.le_trans (Nat.div_le_self _ _) (pd_le hW ho)
theorem wt_0 {T : ZT} (hW : WT T) : wtT T 0 = pdT T := by
  unfold wtT
  rw [szT_0 hW, Nat.div_one]
theorem wt_adj {T : ZT} (hW : WT T) (hG : gdT T = true) {i j k : Nat} (hi : i < T.1) (hj : j < T.1) (hk : k < T.1) : T.2.1 i j k * wtT T j = T.2.1 (T.2.2 i) k j * wtT T k := by
  have h := s_rev hW hG hj hi hk
  rw [hW.2.2.2.2.1 j i k, hW.2.2.2.2.1 k (T.2.2 i) j] at h
  have h1 := wt_mul hj
  have h2 := wt_mul hk
  have h3 := pd_pos hW hG
  apply Nat.eq_of_mul_eq_mul_right h3
  generalize T.2.1 i j k = a at *
  generalize T.2.1 (T.2.2 i) k j = b at *
  generalize wtT T j = u at *
  generalize wtT T k = v at *
  generalize szT T j = y at *
  generalize szT T k = z at *
  generalize pdT T = P at *
  grind
theorem zs_nn {f : Nat → Int} : ∀ (n k : Nat), (∀ i, k ≤ i → i < k + n → 0 ≤ f i) → 0 ≤ zsum f k n
  | 0, _, _ => Int.le_refl _
  | n + 1, k, h => by
    unfold zsum
    exact Int.add_nonneg (h k (by omega) (by omega)) (zs_nn n (k + 1) (fun i h1 h2 => h i (by omega) (by omega)))
theorem sq_nn (x : Int) : 0 ≤ x * x := by
  rcases Int.le_total 0 x with h | h
  · exact Int.mul_nonneg h h
  · exact Int.mul_nonneg_of_nonpos_of_nonpos h h
theorem sq_pd {T : ZT} (hW : WT T) {x : Nat → Int} (h0 : x 0 = 1) : (pdT T : Int) ≤ zsum (fun j => x j * x j * (wtT T j : Int)) 0 T.1 := by
  have h1 := hW.1
  rw [show T.1 = (T.1 - 1) + 1 by omega]
  unfold zsum
  have h2 : 0 ≤ zsum (fun j => x j * x j * (wtT T j : Int)) (0 + 1) (T.1 - 1) := zs_nn _ _ (fun i _ _ => Int.mul_nonneg (sq_nn _) (by omega))
  rw [h0, wt_0 hW]
  omega
theorem RH_rev {T : ZT} (hW : WT T) (hG : gdT T = true) {x : Nat → Int} (hx : RH T x) {i : Nat} (hi : i < T.1) : x (T.2.2 i) = x i := by
  have hi' := hW.2.2.2.1 i hi
  have hD := sq_pd hW hx.1
  have hP := pd_pos hW hG
  have e1 : x i * zsum (fun j => x j * x j * (wtT T j : Int)) 0 T.1 = zsum (fun j => zsum (fun k => (T.2.1 i j k : Int) * (wtT T j : Int) * (x k * x j)) 0 T.1) 0 T.1 := by
    rw [← zs_times]
    apply zsum_congr
    intro j _ hj
    rw [show x i * (x j * x j * (wtT T j : Int)) = (x j * (wtT T j : Int)) * (x i * x j) by grind, hx.2 i j hi (by omega), ← zs_times]
    apply zsum_congr
    intro k _ _
    grind
  have e2 : x (T.2.2 i) * zsum (fun j => x j * x j * (wtT T j : Int)) 0 T.1 = zsum (fun k => zsum (fun j => (T.2.1 (T.2.2 i) k j : Int) * (wtT T k : Int) * (x k * x j)) 0 T.1) 0 T.1 := by
    rw [← zs_times]
    apply zsum_congr
    intro j _ hj
    rw [show x (T.2.2 i) * (x j * x j * (wtT T j : Int)) = (x j * (wtT T j : Int)) * (x (T.2.2 i) * x j) by grind, hx.2 _ j hi' (by omega), ← zs_times]
    apply zsum_congr
    intro k _ _
    grind
  have e3 : zsum (fun j => zsum (fun k => (T.2.1 i j k : Int) * (wtT T j : Int) * (x k * x j)) 0 T.1) 0 T.1 = zsum (fun k => zsum (fun j => (T.2.1 (T.2.2 i) k j : Int) * (wtT T k : Int) * (x k * x j)) 0 T.1) 0 T.1 := by
    rw [zs_swap]
    apply zsum_congr
    intro k _ hk
    apply zsum_congr
    intro j _ hj
    have h := wt_adj hW hG hi (show j < T.1 by omega) (show k < T.1 by omega)
    rw [← Int.natCast_mul, ← Int.natCast_mul, h]
  rw [e3, ← e2] at e1
  exact (Int.eq_of_mul_eq_mul_right (by omega) e1).symm
def dnT (T : ZT) (x : Nat → Int) : Int := zsum (fun i => x i * x (T.2.2 i) * (wtT T i : Int)) 0 T.1
theorem dn_eq {T : ZT} (hW : WT T) (hG : gdT T = true) {x : Nat → Int} (hx : RH T x) : dnT T x = zsum (fun j => x j * x j * (wtT T j : Int)) 0 T.1 := by
  unfold dnT
  apply zsum_congr
  intro i _ hi
  rw [RH_rev hW hG hx (by omega)]
theorem dn_ge {T : ZT} (hW : WT T) (hG : gdT T = true) {x : Nat → Int} (hx : RH T x) : (pdT T : Int) ≤ dnT T x := by
  rw [dn_eq hW hG hx]
  exact sq_pd hW hx.1
theorem zs_ab {f : Nat → Int} {g : Nat → Nat} : ∀ (n k : Nat), (∀ i, k ≤ i → i < k + n → (f i).natAbs ≤ g i) → (zsum f k n).natAbs ≤ zns g k n
  | 0, _, _ => Nat.le_refl _
  | n + 1, k, h => by
    have h1 := h k (by omega) (by omega)
    have h2 := zs_ab n (k + 1) (fun i h1 h2 => h i (by omega) (by omega))
    unfold zsum zns
    omega
theorem dn_le {T : ZT} (hW : WT T) (hG : gdT T = true) {x : Nat → Int} (hb : ∀ j, j < T.1 → -(szT T j : Int) ≤ x j ∧ x j ≤ (szT T j : Int)) : (dnT T x).natAbs ≤ orT T * pdT T := by
  unfold dnT orT
  rw [← zns_timesR]
  apply zs_ab
  intro i _ hi
  have h1 := hb i (by omega)
  have hi' := hW.2.2.2.1 i (by omega)
  have h2 := hb _ hi'
  rw [szT_rv hW hG (by omega)] at h2
  rw [← wt_mul (show i < T.1 by omega)]
  have h3 : (x i * x (T.2.2 i)).natAbs ≤ szT T i * szT T i := by
    rw [Int.natAbs_mul]
    exact Nat.mul_le_mul (by omega) (by omega)
  rw [Int.natAbs_mul, show szT T i * (wtT T i * szT T i) = szT T i * szT T i * wtT T i by grind]
  exact Nat.mul_le_mul h3 (by omega)
/-- u / e is N / P in lowest terms -/
def RF (u : Int) (e : Nat) (N : Int) (P : Nat) : Prop := u * (P : Int) = (e : Int) * N ∧ Nat.gcd u.natAbs e = 1 ∧ 0 < e
theorem RF_u {u u' : Int} {e e' : Nat} {N : Int} {P : Nat} (hP : 0 < P) (h : RF u e N P) (h' : RF u' e' N P) : u = u' ∧ e = e' := by
  obtain ⟨a1, a2, a3⟩ := h
  obtain ⟨b1, b2, b3⟩ := h'
  have hc : u * (e' : Int) = u' * (e : Int) := by
    have : (u * (e' : Int)) * (P : Int) = (u' * (e : Int)) * (P : Int) := by grind
    exact Int.eq_of_mul_eq_mul_right (by omega) this
  have hn : u.natAbs * e' = u'.natAbs * e := by
    have := congrArg Int.natAbs hc
    rw [Int.natAbs_mul, Int.natAbs_mul] at this
    simpa using this
  have d1 : e ∣ e' := by
    have : e ∣ u.natAbs * e' := by rw [hn]; exact Nat.dvd_mul_left _ _
    exact (Nat.Coprime.dvd_of_dvd_mul_left (show Nat.Coprime e u.natAbs by rw [Nat.coprime_comm]; exact a2) this)
  have d2 : e' ∣ e := by
    have : e' ∣ u'.natAbs * e := by rw [← hn]; exact Nat.dvd_mul_left _ _
    exact (Nat.Coprime.dvd_of_dvd_mul_left (show Nat.Coprime e' u'.natAbs by rw [Nat.coprime_comm]; exact b2) this)
  have he := Nat.dvd_antisymm d1 d2
  subst he
  exact ⟨Int.eq_of_mul_eq_mul_right (by omega) hc, rfl⟩
theorem RF_red (X : Int) (Y : Nat) (hY : 0 < Y) : RF (X.tdiv (Nat.gcd X.natAbs Y : Nat)) (Y / Nat.gcd X.natAbs Y) X Y ∧ 0 < Nat.gcd X.natAbs Y := by
  have hg : 0 < Nat.gcd X.natAbs Y := Nat.gcd_pos_of_pos_right _ hY
  have h1 : Y / Nat.gcd X.natAbs Y * Nat.gcd X.natAbs Y = Y := Nat.div_mul_cancel (Nat.gcd_dvd_right _ _)
  have h2 : X.tdiv (Nat.gcd X.natAbs Y : Nat) * (Nat.gcd X.natAbs Y : Nat) = X := Int.tdiv_mul_cancel (by
    rw [← Int.natAbs_dvd_natAbs]
    exact Nat.gcd_dvd_left _ _)
  refine ⟨⟨?_, ?_, ?_⟩, hg⟩
  · have e1 : (Y : Int) = ((Y / Nat.gcd X.natAbs Y : Nat) : Int) * (Nat.gcd X.natAbs Y : Nat) := by rw [← Int.natCast_mul, h1]
    generalize X.tdiv (Nat.gcd X.natAbs Y : Nat) = u at *
    generalize Y / Nat.gcd X.natAbs Y = e at *
    generalize (Nat.gcd X.natAbs Y) = G at *
    rw [e1]
    grind
  · rw [Int.natAbs_tdiv, Int.natAbs_natCast]
    rw [show X.natAbs.div (X.natAbs.gcd Y) = X.natAbs / X.natAbs.gcd Y from rfl, Nat.gcd_div (Nat.gcd_dvd_left _ _) (Nat.gcd_dvd_right _ _), Nat.div_self hg]
  · exact Nat.div_pos (Nat.le_of_dvd hY (Nat.gcd_dvd_right _ _)) hg
/-- COUNT of a row, above and below -/
def cuT (T : ZT) (x : Nat → Int) : Nat := orT T * pdT T / Nat.gcd (orT T * pdT T) (dnT T x).natAbs
def cdT (T : ZT) (x : Nat → Int) : Nat := (dnT T x).natAbs / Nat.gcd (orT T * pdT T) (dnT T x).natAbs
theorem or_pos {T : ZT} (hW : WT T) : 1 ≤ orT T := by
  have h1 := szT_or (T := T) hW.1
  rw [szT_0 hW] at h1
  exact h1
theorem CF_RF {T : ZT} (hW : WT T) (hG : gdT T = true) {x : Nat → Int} (hx : RH T x) : RF (cuT T x : Int) (cdT T x) ((orT T * pdT T : Nat) : Int) (dnT T x).natAbs := by
  have h1 := dn_ge hW hG hx
  have h2 := pd_pos hW hG
  have h := (RF_red ((orT T * pdT T : Nat) : Int) (dnT T x).natAbs (by omega)).1
  rw [Int.natAbs_natCast] at h
  unfold cuT cdT
  rw [← Int.ofNat_tdiv] at h
  exact h
theorem cd_1 {T : ZT} (hW : WT T) (hG : gdT T = true) (ho : orT T ≤ 60) {x : Nat → Int} (hx : RH T x) (h : cdT T x = 1) : cuT T x ≤ 60 := by
  have h1 := dn_ge hW hG hx
  have h2 := pd_pos hW hG
  obtain ⟨a1, a2, a3⟩ := CF_RF hW hG hx
  rw [h] at a1
  have a4 : cuT T x * (dnT T x).natAbs = orT T * pdT T := by
    have : ((cuT T x * (dnT T x).natAbs : Nat) : Int) = ((orT T * pdT T : Nat) : Int) := by rw [Int.natCast_mul, a1]; simp
    omega
  rcases Nat.lt_or_ge 60 (cuT T x) with q | q
  · exfalso
    have h3 : 61 * pdT T ≤ cuT T x * (dnT T x).natAbs := Nat.mul_le_mul q (by omega)
    have h4 : orT T * pdT T ≤ 60 * pdT T := Nat.mul_le_mul_right _ ho
    omega
  · exact q
def duT (T : ZT) (x y z : Nat → Int) : Int := zsum (fun i => x i * y i * z (T.2.2 i) * (wtT T i : Int) * (wtT T i : Int)) 0 T.1
theorem du_le {T : ZT} (hW : WT T) (hG : gdT T = true) {x y z : Nat → Int} (hx : ∀ j, j < T.1 → -(szT T j : Int) ≤ x j ∧ x j ≤ (szT T j : Int)) (hy : ∀ j, j < T.1 → -(szT T j : Int) ≤ y j ∧ y j ≤ (szT T j : Int)) (hz : ∀ j, j < T.1 → -(szT T j : Int) ≤ z j ∧ z j ≤ (szT T j : Int)) : (duT T x y z).natAbs ≤ orT T * (pdT T * pdT T) := by
  unfold duT orT
  rw [← zns_timesR]
  apply zs_ab
  intro i _ hi
  have h1 := hx i (by omega)
  have h4 := hy i (by omega)
  have hi' := hW.2.2.2.1 i (by omega)
  have h2 := hz _ hi'
  rw [szT_rv hW hG (by omega)] at h2
  rw [← wt_mul (show i < T.1 by omega)]
  have h3 : (x i * y i * z (T.2.2 i)).natAbs ≤ szT T i * szT T i * szT T i := by
    rw [Int.natAbs_mul, Int.natAbs_mul]
    exact Nat.mul_le_mul (Nat.mul_le_mul (by omega) (by omega)) (by omega)
  rw [Int.natAbs_mul, Int.natAbs_mul, show szT T i * (wtT T i * szT T i * (wtT T i * szT T i)) = szT T i * szT T i * szT T i * wtT T i * wtT T i by grind]
  exact Nat.mul_le_mul (Nat.mul_le_mul h3 (by omega)) (by omega)
