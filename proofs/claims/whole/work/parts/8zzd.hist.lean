/-! BOTH HISTORIES beside each other -/
def sl (k : Nat) (g : Nat → Int32) : Nat → Int32 := fun q => g (224 * k + q)
theorem RT_congr {T : ZT} {g g' : Nat → Int32} (hm : T.1 ≤ 6) (he : ∀ q, q < 224 → g' q = g q) (h : RT T g) : RT T g' := by
  refine ⟨by rw [he 0 (by omega)]; exact h.1, fun i hi => by rw [he _ (by omega)]; exact h.2.1 i hi, fun i j k hi hj hk => by rw [he _ (by omega)]; exact h.2.2 i j k hi hj hk⟩
theorem sl_0 (g : Nat → Int32) : sl 0 g = g := by
  funext q
  unfold sl
  rw [Nat.mul_zero, Nat.zero_add]
theorem sl_cyt (f t : Nat) (g : Nat → Int32) (q : Nat) (hq : q < 224) : sl t (cy f t g) q = sl f g q := cy_in f t g q hq
theorem sl_cyo (f t k : Nat) (g : Nat → Int32) (q : Nat) (hq : q < 224) (hk : k ≠ t) : sl k (cy f t g) q = sl k g q := by
  unfold sl
  refine cy_out f t g _ ?_
  rcases Nat.lt_or_ge k t with h | h
  · left; have := Nat.mul_le_mul_left 224 (show k + 1 ≤ t by omega); omega
  · right; have := Nat.mul_le_mul_left 224 (show t + 1 ≤ k by omega); omega
theorem sl_cys : ∀ (r k : Nat) (g : Nat → Int32) (i q : Nat), q < 224 → sl i (cy_s g k r) q = if 6 + k ≤ i ∧ i < 6 + k + r then sl (i + 1) g q else sl i g q
  | 0, k, g, i, q, hq => by
    rw [if_neg (by omega)]
    rfl
  | r + 1, k, g, i, q, hq => by
    show sl i (cy_s (cy (7 + k) (6 + k) g) (k + 1) r) q = _
    rw [sl_cys r (k + 1) _ i q hq]
    by_cases h1 : 6 + (k + 1) ≤ i ∧ i < 6 + (k + 1) + r
    · rw [if_pos h1, if_pos (by omega), sl_cyo _ _ _ _ _ hq (by omega)]
    · rw [if_neg h1]
      by_cases h2 : i = 6 + k
      · subst h2
        rw [if_pos (by omega), sl_cyt _ _ _ _ hq, show 7 + k = 6 + k + 1 by omega]
      · rw [if_neg (by omega), sl_cyo _ _ _ _ _ hq h2]
theorem sl_ds (w : Nat) (hw : w ≤ 12) (g : Nat → Int32) (i q : Nat) (hq : q < 224) : sl i (ds w g) q = if i = 0 ∨ i = 6 + dw w then sl 1 g q else if w = 12 ∧ 6 ≤ i ∧ i < 18 then sl (i + 1) g q else sl i g q := by
  unfold ds dw
  by_cases h1 : w < 12
  · rw [if_pos h1, if_pos h1, if_neg (show ¬ (w = 12 ∧ 6 ≤ i ∧ i < 18) by omega)]
    by_cases h2 : i = 6 + (w + 1)
    · subst h2
      rw [sl_cyt _ _ _ _ hq, if_pos (Or.inr rfl), sl_cyt _ _ _ _ hq]
    · rw [sl_cyo _ _ _ _ _ hq h2]
      by_cases h3 : i = 0
      · subst h3
        rw [if_pos (Or.inl rfl), sl_cyt _ _ _ _ hq]
      · rw [if_neg (by omega), sl_cyo _ _ _ _ _ hq h3]
  · rw [if_neg h1, if_neg h1]
    have hw2 : w = 12 := by omega
    by_cases h2 : i = 18
    · subst h2
      rw [sl_cyt _ _ _ _ hq, if_pos (Or.inr rfl), sl_cys _ _ _ _ _ hq, if_neg (by omega), sl_cyt _ _ _ _ hq]
    · rw [sl_cyo _ _ _ _ _ hq h2, sl_cys _ _ _ _ _ hq]
      by_cases h3 : i = 0
      · subst h3
        rw [if_neg (by omega), if_pos (Or.inl rfl), sl_cyt _ _ _ _ hq]
      · by_cases h4 : 6 ≤ i ∧ i < 18
        · rw [if_pos (by omega), if_neg (by omega), if_pos ⟨hw2, h4⟩, sl_cyo _ _ _ _ _ hq (by omega)]
        · rw [if_neg (by omega), if_neg (by omega), if_neg (by omega), sl_cyo _ _ _ _ _ hq h3]
theorem sl_f1 {g g' : Nat → Int32} (h : f1 g g') (i q : Nat) (hq : q < 224) (hi : i ≠ 1) : sl i g' q = sl i g q := by
  unfold sl
  refine h _ ?_
  rcases Nat.lt_or_ge i 1 with q2 | q2
  · left
    have : i = 0 := by omega
    subst this
    omega
  · right
    have := Nat.mul_le_mul_left 224 (show 2 ≤ i by omega)
    omega
/-- the tables by their addresses -/
abbrev VT : Type := Nat → Option ZT
def VW (V : VT) : Prop := ∀ e T, V e = some T → WT T
def SLT (V : VT) (o : Option Nat) (k : Nat) (g : Nat → Int32) : Prop := ∃ e T, o = some e ∧ V e = some T ∧ RT T (sl k g)
def HI (V : VT) (a p f : Nat) (Q : Nat → Nat → Option Nat) (g : Nat → Int32) : Prop := p + f ≤ 12 ∧ SLT V (some a) 0 g ∧ SLT V (some a) (6 + p) g ∧ (∀ i, i < p → SLT V (Q 17 i) (6 + i) g) ∧ ∀ j, j < f → SLT V (Q 18 (f - 1 - j)) (7 + p + j) g
def MI (V : VT) (Q : Nat → Nat → Option Nat) (m : Nat → Int32) (g : Nat → Int32) : Prop := ∀ k, k < 4 → (Q 22 k = none ∧ m k = 0) ∨ (SLT V (Q 22 k) (2 + k) g ∧ m k = 1)
theorem SLT_to {V V' : VT} {o : Option Nat} {k k' : Nat} {g g' : Nat → Int32} (hV : VW V) (hVV : ∀ e T, V e = some T → V' e = some T) (h : SLT V o k g) (he : ∀ q, q < 224 → sl k' g' q = sl k g q) : SLT V' o k' g' := by
  obtain ⟨e, T, h1, h2, h3⟩ := h
  exact ⟨e, T, h1, hVV e T h2, RT_congr (hV e T h2).2.1 he h3⟩
theorem MI_to {V V' : VT} {Q Q' : Nat → Nat → Option Nat} {m : Nat → Int32} {g g' : Nat → Int32} (hV : VW V) (hVV : ∀ e T, V e = some T → V' e = some T) (h : MI V Q m g) (hQ : Q' 22 = Q 22) (he : ∀ k q, 2 ≤ k → k < 6 → q < 224 → sl k g' q = sl k g q) : MI V' Q' m g' := by
  intro k hk
  rw [hQ]
  rcases h k hk with h1 | h1
  · exact Or.inl h1
  · exact Or.inr ⟨SLT_to hV hVV h1.1 (fun q hq => he (2 + k) q (by omega) (by omega) hq), h1.2⟩
theorem HI_to {V V' : VT} {a p f : Nat} {Q : Nat → Nat → Option Nat} {g g' : Nat → Int32} (hV : VW V) (hVV : ∀ e T, V e = some T → V' e = some T) (h : HI V a p f Q g) (he : f1 g g') : HI V' a p f Q g' := by
  obtain ⟨h1, h2, h3, h4, h5⟩ := h
  exact ⟨h1, SLT_to hV hVV h2 (fun q hq => sl_f1 he _ q hq (by omega)), SLT_to hV hVV h3 (fun q hq => sl_f1 he _ q hq (by omega)), fun i hi => SLT_to hV hVV (h4 i hi) (fun q hq => sl_f1 he _ q hq (by omega)), fun j hj => SLT_to hV hVV (h5 j hj) (fun q hq => sl_f1 he _ q hq (by omega))⟩
theorem dQ_17 (Q : Nat → Nat → Option Nat) (p a : Nat) : dQ Q p a 17 = pq p (Q 17) a := by
  unfold dQ
  rw [zu_ne _ _ _ _ (by omega), zu_eq]
theorem dQ_22 (Q : Nat → Nat → Option Nat) (p a : Nat) : dQ Q p a 22 = Q 22 := by
  unfold dQ
  rw [zu_ne _ _ _ _ (by omega), zu_ne _ _ _ _ (by omega)]
theorem HI_done {V V' : VT} {a p f b : Nat} {Q : Nat → Nat → Option Nat} {g g' : Nat → Int32} {T' : ZT} (hV : VW V) (hW : WT T') (hVV : ∀ e T, V e = some T → V' e = some T) (h : HI V a p f Q g) (he : f1 g g') (hb : V' b = some T') (hR : RT T' (sl 1 g')) : HI V' b (dw p) 0 (dQ Q p a) (ds p g') := by
  obtain ⟨h1, h2, h3, h4, h5⟩ := h
  have hp12 : p ≤ 12 := by omega
  have hdw : dw p ≤ 12 := by unfold dw; split <;> omega
  refine ⟨by omega, ⟨b, T', rfl, hb, RT_congr hW.2.1 (fun q hq => ?_) hR⟩, ⟨b, T', rfl, hb, RT_congr hW.2.1 (fun q hq => ?_) hR⟩, fun i hi => ?_, fun j hj => by omega⟩
  · rw [sl_ds p hp12 _ _ _ hq, if_pos (Or.inl rfl)]
  · rw [sl_ds p hp12 _ _ _ hq, if_pos (Or.inr rfl)]
  · rw [dQ_17]
    unfold pq
    by_cases q12 : p < 12
    · have e1 : dw p = p + 1 := by unfold dw; rw [if_pos q12]
      rw [if_pos q12]
      by_cases qi : i = p
      · subst qi
        rw [zu_eq]
        exact SLT_to hV hVV h3 (fun q hq => by rw [sl_ds i hp12 _ _ _ hq, if_neg (by omega), if_neg (by omega), sl_f1 he _ _ hq (by omega)])
      · rw [zu_ne _ _ _ _ qi]
        exact SLT_to hV hVV (h4 i (by omega)) (fun q hq => by rw [sl_ds p hp12 _ _ _ hq, if_neg (by omega), if_neg (by omega), sl_f1 he _ _ hq (by omega)])
    · have e0 : p = 12 := by omega
      subst e0
      have e1 : dw 12 = 12 := rfl
      rw [if_neg q12]
      by_cases qi : i = 11
      · subst qi
        rw [zu_eq]
        exact SLT_to hV hVV h3 (fun q hq => by rw [sl_ds 12 hp12 _ _ _ hq, if_neg (by omega), if_pos ⟨rfl, by omega, by omega⟩, sl_f1 he _ _ hq (by omega)])
      · rw [zu_ne _ _ _ _ qi]
        unfold sq
        rw [if_pos (by omega)]
        exact SLT_to hV hVV (h4 (i + 1) (by omega)) (fun q hq => by rw [sl_ds 12 hp12 _ _ _ hq, if_neg (by omega), if_pos ⟨rfl, by omega, by omega⟩, sl_f1 he _ _ hq (by omega), show 6 + i + 1 = 6 + (i + 1) by omega])
theorem MI_done {V V' : VT} {p a : Nat} {Q : Nat → Nat → Option Nat} {m : Nat → Int32} {g g' : Nat → Int32} (hV : VW V) (hVV : ∀ e T, V e = some T → V' e = some T) (hp12 : p ≤ 12) (h : MI V Q m g) (he : f1 g g') : MI V' (dQ Q p a) m (ds p g') :=
  MI_to hV hVV h (dQ_22 Q p a) (fun k q h1 h2 hq => by
    have hdw : 6 + dw p ≠ k := by omega
    rw [sl_ds p hp12 _ _ _ hq, if_neg (by omega), if_neg (by omega), sl_f1 he _ _ hq (by omega)])
theorem HI_undo {V : VT} {a p f e : Nat} {Q : Nat → Nat → Option Nat} {g : Nat → Int32} (hV : VW V) (h : HI V a (p + 1) f Q g) (hq : Q 17 p = some e) : HI V e p (f + 1) (zu (zu Q 17 (zu (Q 17) p none)) 18 (zu (Q 18) f (some a))) (cy (6 + p) 0 g) := by
  obtain ⟨h1, h2, h3, h4, h5⟩ := h
  have hp := h4 p (by omega)
  rw [hq] at hp
  refine ⟨by omega, SLT_to hV (fun _ _ h => h) hp (fun q hq => sl_cyt _ _ _ _ hq), SLT_to hV (fun _ _ h => h) hp (fun q hq => sl_cyo _ _ _ _ _ hq (by omega)), fun i hi => ?_, fun j hj => ?_⟩
  · rw [zu_ne _ _ _ _ (by omega), zu_eq, zu_ne _ _ _ _ (by omega)]
    exact SLT_to hV (fun _ _ h => h) (h4 i (by omega)) (fun q hq => sl_cyo _ _ _ _ _ hq (by omega))
  · rw [zu_eq]
    by_cases q0 : j = 0
    · subst q0
      rw [show f + 1 - 1 - 0 = f by omega, zu_eq]
      exact SLT_to hV (fun _ _ h => h) h3 (fun q hq => by rw [sl_cyo _ _ _ _ _ hq (by omega), show 7 + p + 0 = 6 + (p + 1) by omega])
    · rw [zu_ne _ _ _ _ (by omega)]
      have h6 := h5 (j - 1) (by omega)
      rw [show f - 1 - (j - 1) = f + 1 - 1 - j by omega] at h6
      exact SLT_to hV (fun _ _ h => h) h6 (fun q hq => by rw [sl_cyo _ _ _ _ _ hq (by omega), show 7 + p + j = 7 + (p + 1) + (j - 1) by omega])
theorem HI_again {V : VT} {a p f e : Nat} {Q : Nat → Nat → Option Nat} {g : Nat → Int32} (hV : VW V) (h : HI V a p (f + 1) Q g) (hq : Q 18 f = some e) : HI V e (p + 1) f (zu (zu Q 17 (pq p (Q 17) a)) 18 (zu (Q 18) f none)) (cy (6 + (p + 1)) 0 g) := by
  obtain ⟨h1, h2, h3, h4, h5⟩ := h
  have hp := h5 0 (by omega)
  rw [show f + 1 - 1 - 0 = f by omega, hq, show 7 + p + 0 = 6 + (p + 1) by omega] at hp
  refine ⟨by omega, SLT_to hV (fun _ _ h => h) hp (fun q hq => sl_cyt _ _ _ _ hq), SLT_to hV (fun _ _ h => h) hp (fun q hq => sl_cyo _ _ _ _ _ hq (by omega)), fun i hi => ?_, fun j hj => ?_⟩
  · rw [zu_ne _ _ _ _ (by omega), zu_eq]
    unfold pq
    rw [if_pos (by omega)]
    by_cases q0 : i = p
    · subst q0
      rw [zu_eq]
      exact SLT_to hV (fun _ _ h => h) h3 (fun q hq => sl_cyo _ _ _ _ _ hq (by omega))
    · rw [zu_ne _ _ _ _ q0]
      exact SLT_to hV (fun _ _ h => h) (h4 i (by omega)) (fun q hq => sl_cyo _ _ _ _ _ hq (by omega))
  · rw [zu_eq, zu_ne _ _ _ _ (by omega)]
    have h6 := h5 (j + 1) (by omega)
    rw [show f + 1 - 1 - (j + 1) = f - 1 - j by omega] at h6
    exact SLT_to hV (fun _ _ h => h) h6 (fun q hq => by rw [sl_cyo _ _ _ _ _ hq (by omega), show 7 + (p + 1) + j = 7 + p + (j + 1) by omega])
