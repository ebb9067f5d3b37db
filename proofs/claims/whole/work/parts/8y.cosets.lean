/-! COSETS numbered; the tables that are made are tables -/
def rpT (T : ZT) (b i : Nat) : Nat := (zfst (fun k => if rB T b i k = true then some k else none) 0 T.1).getD 0
def cR (T : ZT) (b i : Nat) : Nat := zns (fun j => if rpT T b j = j then 1 else 0) 0 i
def qw (T : ZT) (b i : Nat) : Nat := cR T b (rpT T b i)
def qv (T : ZT) (b : Nat) : Nat := zns (fun h => if b.testBit h = true then szT T h else 0) 0 T.1
theorem zfst_least {p : Nat → Bool} {m j : Nat} (hj : j < m) (hp : p j = true) : ∃ t, zfst (fun k => if p k = true then some k else none) 0 m = some t ∧ t ≤ j ∧ p t = true ∧ ∀ i, i < t → p i = false := by
  have key : ∀ r k, k ≤ j → j < k + r → (∀ i, i < k → p i = false) → ∃ t, zfst (fun k => if p k = true then some k else none) k r = some t ∧ t ≤ j ∧ p t = true ∧ ∀ i, i < t → p i = false := by
    intro r
    induction r with
    | zero => intro k h1 h2; omega
    | succ r ih =>
      intro k h1 h2 h3
      cases q : p k with
      | true => exact ⟨k, by simp only [zfst, q, if_true], h1, q, h3⟩
      | false =>
        have h4 : k ≠ j := fun h => by rw [h, hp] at q; cases q
        obtain ⟨t, h5, h6⟩ := ih (k + 1) (by omega) (by omega) (fun i hi => by
          by_cases q2 : i = k
          · rw [q2]; exact q
          · exact h3 i (by omega))
        refine ⟨t, ?_, h6⟩
        simp only [zfst, q, Bool.false_eq_true, if_false]
        exact h5
  exact key m 0 (by omega) (by omega) (fun i hi => by omega)
theorem cR_s (T : ZT) (b i : Nat) : cR T b (i + 1) = cR T b i + if rpT T b i = i then 1 else 0 := by
  unfold cR
  rw [zns_last, Nat.zero_add]
theorem cR_le (T : ZT) (b : Nat) : ∀ i, cR T b i ≤ i
  | 0 => Nat.le_refl _
  | i + 1 => by
    have := cR_le T b i
    rw [cR_s]
    by_cases q : rpT T b i = i
    · rw [if_pos q]; omega
    · rw [if_neg q]; omega
theorem cR_mono (T : ZT) (b : Nat) : ∀ (r i : Nat), cR T b i ≤ cR T b (i + r)
  | 0, i => Nat.le_refl _
  | r + 1, i => by
    have := cR_mono T b r i
    rw [← Nat.add_assoc, cR_s]
    omega
theorem cR_lt {T : ZT} {b x i : Nat} (h : rpT T b x = x) (hx : x < i) : cR T b x < cR T b i := by
  have h1 := cR_mono T b (i - (x + 1)) (x + 1)
  rw [show x + 1 + (i - (x + 1)) = i by omega, cR_s, if_pos h] at h1
  omega
theorem cR_find {T : ZT} {b k : Nat} : ∀ i, k < cR T b i → ∃ x, x < i ∧ rpT T b x = x ∧ cR T b x = k
  | 0, h => by simp [cR, zns] at h
  | i + 1, h => by
    rw [cR_s] at h
    by_cases q : k < cR T b i
    · obtain ⟨x, h1, h2, h3⟩ := cR_find i q
      exact ⟨x, by omega, h2, h3⟩
    · by_cases q2 : rpT T b i = i
      · rw [if_pos q2] at h
        exact ⟨i, by omega, q2, by omega⟩
      · rw [if_neg q2] at h; omega
section QC
variable {T : ZT} {b : Nat}
theorem rp_spec (hW : WT T) (hP : PR T b) {i : Nat} (hi : i < T.1) : rpT T b i ≤ i ∧ rB T b i (rpT T b i) = true ∧ ∀ j, j < rpT T b i → rB T b i j = false := by
  obtain ⟨t, h1, h2, h3, h4⟩ := zfst_least (p := fun k => rB T b i k) hi (rB_refl hW hP hi)
  unfold rpT
  rw [h1]
  exact ⟨h2, h3, h4⟩
theorem rp_eq (hW : WT T) (hG : gdT T = true) (hP : PR T b) {i k : Nat} (hi : i < T.1) (hk : k < T.1) : rB T b i k = true ↔ rpT T b i = rpT T b k := by
  obtain ⟨a1, a2, a3⟩ := rp_spec hW hP hi
  obtain ⟨b1, b2, b3⟩ := rp_spec hW hP hk
  constructor
  · intro h
    by_cases q : rpT T b i < rpT T b k
    · have := b3 _ q
      rw [rB_trans hW hG hP hk hi (by omega) (rB_symm hW hG hP hi hk h) a2] at this
      cases this
    · by_cases q2 : rpT T b k < rpT T b i
      · have := a3 _ q2
        rw [rB_trans hW hG hP hi hk (by omega) h b2] at this
        cases this
      · omega
  · intro h
    rw [← h] at b2
    exact rB_trans hW hG hP hi (by omega) hk a2 (rB_symm hW hG hP hk (by omega) b2)
theorem rp_rp (hW : WT T) (hG : gdT T = true) (hP : PR T b) {i : Nat} (hi : i < T.1) : rpT T b (rpT T b i) = rpT T b i := by
  obtain ⟨a1, a2, a3⟩ := rp_spec hW hP hi
  exact ((rp_eq hW hG hP hi (by omega)).1 a2).symm
theorem qw_eq (hW : WT T) (hG : gdT T = true) (hP : PR T b) {i k : Nat} (hi : i < T.1) (hk : k < T.1) : qw T b i = qw T b k ↔ rB T b i k = true := by
  rw [rp_eq hW hG hP hi hk]
  constructor
  · intro h
    unfold qw at h
    by_cases q : rpT T b i < rpT T b k
    · have := cR_lt (rp_rp hW hG hP hi) q; omega
    · by_cases q2 : rpT T b k < rpT T b i
      · have := cR_lt (rp_rp hW hG hP hk) q2; omega
      · omega
  · intro h
    unfold qw
    rw [h]
theorem qw_LW (hW : WT T) (hG : gdT T = true) (hP : PR T b) : LW T.1 (qw T b, cR T b T.1) := by
  have h0 := hW.1
  have r0 : rpT T b 0 = 0 := by have := (rp_spec hW hP h0).1; omega
  refine ⟨?_, cR_le T b T.1, fun j hj => ?_, fun q hq => ?_, fun j hj => ?_⟩
  · have := cR_lt (i := T.1) r0 h0
    show 1 ≤ cR T b T.1
    omega
  · have := (rp_spec hW hP hj).1
    exact cR_lt (rp_rp hW hG hP hj) (by omega)
  · obtain ⟨x, h1, h2, h3⟩ := cR_find _ hq
    refine ⟨x, h1, ?_⟩
    show qw T b x = q
    unfold qw
    rw [h2, h3]
  · have h1 := (rp_spec hW hP hj).1
    have h2 := cR_le T b (rpT T b j)
    show qw T b j ≤ j
    unfold qw
    omega
theorem rB_0 (hW : WT T) {j : Nat} (hj : j < T.1) : rB T b 0 j = b.testBit j := by
  rw [Bool.eq_iff_iff, rB_iff]
  constructor
  · rintro ⟨h, h1, h2, h3⟩
    rw [hW.2.2.2.2.2.2.1 h j h1] at h3
    by_cases q : h = j
    · rw [← q]; exact h2
    · rw [if_neg q] at h3; omega
  · intro h
    refine ⟨j, hj, h, ?_⟩
    rw [hW.2.2.2.2.2.2.1 j j hj, if_pos rfl]
    omega
theorem qw_0 (hW : WT T) (hG : gdT T = true) (hP : PR T b) {j : Nat} (hj : j < T.1) : qw T b j = 0 ↔ b.testBit j = true := by
  have h0 := hW.1
  have r0 : rpT T b 0 = 0 := by have := (rp_spec hW hP h0).1; omega
  have e0 : qw T b 0 = 0 := by unfold qw; rw [r0]; rfl
  rw [← rB_0 hW hj, ← qw_eq hW hG hP h0 hj, e0]
  exact ⟨fun h => h.symm, fun h => h.symm⟩
theorem qv_pos (hW : WT T) (hP : PR T b) : 1 ≤ qv T b := by
  have h := zns_ge (f := fun h => if b.testBit h = true then szT T h else 0) T.1 0 0 (by omega) (by have := hW.1; omega)
  simp only [hP.1, if_true, szT_0 hW] at h
  exact h
theorem qv_le (hW : WT T) : qv T b ≤ 6000000 := by
  have h1 := hW.2.1
  have h := zns_le (f := fun h => if b.testBit h = true then szT T h else 0) 999999 T.1 0 (fun i _ _ => by
    by_cases q : b.testBit i = true
    · simp only [if_pos q]; exact szT_le hW i
    · simp only [if_neg q]; omega)
  have h3 : T.1 * 999999 ≤ 6 * 999999 := Nat.mul_le_mul_right _ h1
  unfold qv
  omega
theorem q_unit (hW : WT T) (hG : gdT T = true) (hP : PR T b) {i k : Nat} (hk : k < T.1) : tgT T (qw T b) 0 i k = if qw T b k = i then qv T b else 0 := by
  unfold tgT
  by_cases q : qw T b k = i
  · rw [if_pos q]
    unfold qv
    apply zns_congr
    intro h _ hh
    by_cases c : b.testBit h = true
    · rw [if_pos c, ← row_sum hW hG (by omega) hk]
      apply zns_congr
      intro j _ hj
      by_cases c2 : qw T b j = i
      · rw [if_pos ⟨(qw_0 hW hG hP (by omega)).2 c, c2⟩]
      · rw [if_neg (fun e => c2 e.2)]
        symm
        by_cases c3 : 0 < T.2.1 h j k
        · exfalso
          apply c2
          rw [← q]
          rw [qw_eq hW hG hP (by omega) hk, rB_iff]
          exact ⟨h, by omega, c, by rw [hW.2.2.2.2.1 j h k]; exact c3⟩
        · omega
    · rw [if_neg c]
      apply zns_z
      intro j _ hj
      rw [if_neg (fun e => c ((qw_0 hW hG hP (by omega)).1 e.1))]
  · rw [if_neg q]
    apply zns_z
    intro h _ hh
    apply zns_z
    intro j _ hj
    by_cases c : qw T b h = 0 ∧ qw T b j = i
    · rw [if_pos c]
      by_cases c3 : 0 < T.2.1 h j k
      · exfalso
        apply q
        rw [← c.2]
        symm
        rw [qw_eq hW hG hP (by omega) hk, rB_iff]
        exact ⟨h, by omega, (qw_0 hW hG hP (by omega)).1 c.1, by rw [hW.2.2.2.2.1 j h k]; exact c3⟩
      · omega
    · rw [if_neg c]
end QC
theorem gokT_iff {T : ZT} {w : Nat → Nat} {v m : Nat} : gokT T w v m = true ↔ ∀ x y z, x < m → y < m → z < m → gok T w v x y z = true := by
  unfold gokT
  rw [zall_iff]
  constructor
  · intro h x y z hx hy hz
    have h1 := h x (by omega) (by omega)
    simp only [gokX] at h1
    rw [zall_iff] at h1
    have h2 := h1 y (by omega) (by omega)
    simp only [gokY] at h2
    rw [zall_iff] at h2
    exact h2 z (by omega) (by omega)
  · intro h x _ hx
    simp only [gokX]
    rw [zall_iff]
    intro y _ hy
    simp only [gokY]
    rw [zall_iff]
    intro z _ hz
    exact h x y z (by omega) (by omega) (by omega)
theorem pS_m (m : Nat) (F : Nat → Nat → Nat → Nat) (i j k : Nat) : pS m F m 0 0 i j k = if i < m ∧ j < m ∧ k < m then F i j k else 0 := by
  unfold pS
  by_cases c : i < m ∧ j < m ∧ k < m
  · rw [if_pos c, if_pos (by omega)]
  · rw [if_neg c, if_neg (by omega)]
theorem WT_ga {T : ZT} (hW : WT T) {w : Nat → Nat} {v m : Nat} (hL : LW T.1 (w, m)) (hk : gokT T w v m = true) (hU : ∀ i k, i < m → k < T.1 → tgT T w 0 i k / v = if w k = i then 1 else 0) : WT (gaT T w v m) := by
  have h0 := hW.1
  have h1 := hW.2.1
  have hm1 : 1 ≤ m := hL.1
  have hm2 : m ≤ T.1 := hL.2.1
  rw [gokT_iff] at hk
  have w0 : w 0 = 0 := by have : w 0 ≤ 0 := hL.2.2.2.2 0 h0; omega
  have l0 : lsT T.1 w 0 = 0 := by
    have := lsT_spec (w := w) h0
    rw [w0] at this
    omega
  refine ⟨hm1, by show m ≤ 6; omega, fun i j k => ?_, fun i hi => ?_, fun i j k => ?_, fun i j k h => ?_, fun i k hi => ?_, ?_⟩
  · show pS m (gaF T w v) m 0 0 i j k ≤ 999999
    rw [pS_m]
    by_cases c : i < m ∧ j < m ∧ k < m
    · rw [if_pos c]
      have := hk i j k c.1 c.2.1 c.2.2
      unfold gok at this
      rw [decide_eq_true_eq] at this
      exact this.2
    · rw [if_neg c]; omega
  · have hi' : i < m := hi
    show rP m (gaR T w) m i < m
    unfold rP gaR
    rw [if_pos hi', if_pos hi']
    exact hL.2.2.1 _ (hW.2.2.2.1 _ (LW_ls hL hi').1)
  · show pS m (gaF T w v) m 0 0 i j k = pS m (gaF T w v) m 0 0 j i k
    rw [pS_m, pS_m]
    by_cases c : i < m ∧ j < m ∧ k < m
    · rw [if_pos c, if_pos ⟨c.2.1, c.1, c.2.2⟩]
      unfold gaF
      rw [tgT_sym hW]
    · rw [if_neg c, if_neg (by omega)]
  · have h' : m ≤ i ∨ m ≤ j ∨ m ≤ k := h
    show pS m (gaF T w v) m 0 0 i j k = 0
    rw [pS_m, if_neg (by omega)]
  · have hi' : i < m := hi
    show pS m (gaF T w v) m 0 0 0 i k = _
    rw [pS_m]
    by_cases c : k < m
    · obtain ⟨k1, k2⟩ := LW_ls hL c
      rw [if_pos ⟨by omega, hi', c⟩]
      unfold gaF
      rw [hU i _ hi' k1, k2]
      by_cases q : k = i
      · rw [if_pos q, if_pos q.symm]
      · rw [if_neg q, if_neg (fun e => q e.symm)]
    · rw [if_neg (by omega), if_neg (by omega)]
  · show rP m (gaR T w) m 0 = 0
    unfold rP gaR
    rw [if_pos (by omega), if_pos (by omega), l0, hW.2.2.2.2.2.2.2, w0]
/-- in a partition by which things are fused, 0 is alone -/
theorem lvs_pos (m : Nat) : ∀ (r k gr : Nat) (w : Nat → Nat), k + r = m → (∀ j, 1 ≤ j → j < k → 1 ≤ w j) → ∀ p, p ∈ lvs r k gr w → ∀ j, 1 ≤ j → j < m → 1 ≤ p.1 j
  | 0, k, gr, w, hk, h1, p, hp => by
    simp only [lvs, List.mem_singleton] at hp
    subst hp
    intro j hj hj2
    exact h1 j hj (by omega)
  | r + 1, k, gr, w, hk, h1, p, hp => by
    simp only [lvs] at hp
    obtain ⟨y, hy1, hy2, hy3⟩ := cat_mem _ _ hp
    refine lvs_pos m r (k + 1) (max gr y) (zu w k y) (by omega) (fun j hj hj2 => ?_) p hy3
    by_cases q : j = k
    · subst q; rw [zu_eq]; omega
    · rw [zu_ne _ _ _ _ q]; exact h1 j hj (by omega)
theorem WT_fu {T : ZT} (hW : WT T) {p : (Nat → Nat) × Nat} (h : p ∈ FL T) (hk : gokT T p.1 1 p.2 = true) : WT (gaT T p.1 1 p.2) := by
  have hL := FL_ok hW h
  have h0 := hW.1
  have hp : ∀ j, 1 ≤ j → j < T.1 → 1 ≤ p.1 j := by
    unfold FL at h
    rw [List.mem_filter] at h
    exact lvs_pos T.1 (T.1 - 1) 1 0 (fun _ => 0) (by omega) (fun j h1 h2 => by omega) p h.1
  refine WT_ga hW hL hk (fun i k hi hk => ?_)
  rw [Nat.div_one]
  unfold tgT
  have w0 : p.1 0 = 0 := by have := hL.2.2.2.2 0 h0; omega
  rw [zns_one h0 (fun x hx hne => zns_z _ _ (fun j _ _ => if_neg (fun e => by have := hp x (by omega) hx; omega)))]
  rw [zns_one hk (fun j hj hne => by
    by_cases c : p.1 0 = 0 ∧ p.1 j = i
    · rw [if_pos c, hW.2.2.2.2.2.2.1 j k hj, if_neg hne]
    · rw [if_neg c])]
  by_cases q : p.1 k = i
  · rw [if_pos ⟨w0, q⟩, if_pos q, hW.2.2.2.2.2.2.1 k k hk, if_pos rfl]
  · rw [if_neg (fun e => q e.2), if_neg q]
