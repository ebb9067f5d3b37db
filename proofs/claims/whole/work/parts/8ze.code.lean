/-! FORMULAS: their steps fit -/
def hg : List (Nat × Nat) → Nat → Option Nat
  | [], t => some t
  | x :: l, t => if x.1 ≤ 5 then (if t < 64 then hg l (t + 1) else none) else if x.1 = 6 then (if 1 ≤ t then hg l t else none) else (if 2 ≤ t then hg l (t - 1) else none)
theorem hg_cons (x : Nat × Nat) (l : List (Nat × Nat)) (t : Nat) : hg (x :: l) t = if x.1 ≤ 5 then (if t < 64 then hg l (t + 1) else none) else if x.1 = 6 then (if 1 ≤ t then hg l t else none) else (if 2 ≤ t then hg l (t - 1) else none) := rfl
theorem hg_app : ∀ (l m : List (Nat × Nat)) (t u : Nat), hg l t = some u → hg (l ++ m) t = hg m u
  | [], m, t, u, h => by cases h; rfl
  | x :: l, m, t, u, h => by
    rw [List.cons_append, hg_cons]
    rw [hg_cons] at h
    split
    · next q =>
      rw [if_pos q] at h
      split
      · next q2 => rw [if_pos q2] at h; exact hg_app l m _ u h
      · next q2 => rw [if_neg q2] at h; cases h
    · next q =>
      rw [if_neg q] at h
      split
      · next q2 =>
        rw [if_pos q2] at h
        split
        · next q3 => rw [if_pos q3] at h; exact hg_app l m _ u h
        · next q3 => rw [if_neg q3] at h; cases h
      · next q2 =>
        rw [if_neg q2] at h
        split
        · next q3 => rw [if_pos q3] at h; exact hg_app l m _ u h
        · next q3 => rw [if_neg q3] at h; cases h
/-- the steps as a list -/
def CL (e : EST) (l : List (Nat × Nat)) : Prop := l.length = e.2.1 ∧ ∀ i (h : i < l.length), e.2.2.1 i = zn l[i].1 ∧ e.2.2.2 i = zn l[i].2 ∧ l[i].1 ≤ 13 ∧ l[i].2 < 10000
theorem CL_stx {e : EST} {l : List (Nat × Nat)} (h : CL e l) (x : Nat × Nat) : CL (stx x e) l := h
theorem CL_emi {e : EST} {l : List (Nat × Nat)} (h : CL e l) (hl : e.2.1 < 1000) {o a : Nat} (ho : o ≤ 13) (ha : a < 10000) : CL (emi (zn o) (zn a) e) (l ++ [(o, a)]) := by
  rw [emi_len hl]
  obtain ⟨h1, h2⟩ := h
  refine ⟨by rw [List.length_append, h1]; rfl, fun i hi => ?_⟩
  rw [List.length_append] at hi
  have hi' : i < l.length + 1 := hi
  dsimp only
  by_cases q : i = l.length
  · subst q
    rw [← h1]
    simp [zu_eq, ho, ha]
  · rw [List.getElem_append_left (by omega), zu_ne _ _ _ _ (by omega), zu_ne _ _ _ _ (by omega)]
    exact h2 i (by omega)
def HG (N : Nat) (P : EST → EST) (b : Nat) : Prop := ∀ (e : EST) (l : List (Nat × Nat)), EN N e → CL e l → (P e).1.2 = 0 → e.1.2 = 0 ∧ ∃ m, CL (P e) (l ++ m) ∧ ∀ t, t + b ≤ 64 → hg m t = some (t + 1)
def HL (N : Nat) (P : EST → EST) (b : Nat) : Prop := ∀ (e : EST) (l : List (Nat × Nat)), EN N e → CL e l → (P e).1.2 = 0 → e.1.2 = 0 ∧ ∃ m, CL (P e) (l ++ m) ∧ ∀ t, t + b ≤ 64 → hg m (t + 1) = some (t + 1)
theorem loF_F {t : EST → EST} {o : Nat → Option Nat} {f : Nat} {e : EST} (h : ¬ e.1.2 = 0) : loF t o f e = e := by
  cases f with
  | zero => rfl
  | succ f => unfold loF; rw [if_neg h]
section HH
variable {L : Nat} {tp : Nat → Nat} {N : Nat} {f g : Nat → Int32} {v : Nat → Int64}
/-- steps that join two -/
def J2 (o : Nat → Option Nat) : Prop := ∀ k c, o k = some c → 7 ≤ c ∧ c ≤ 13
theorem HL_loF (hR : RTK L tp N f g v) {t : EST → EST} {o : Nat → Option Nat} {b : Nat} (ht : HG N t b) (hp : PG N t) (ho : JO L tp o) (h2 : J2 o) : ∀ fu, HL N (loF t o fu) (b + 1)
  | 0, e, l, hE, hC, hf => ⟨hf, [], by rw [List.append_nil]; exact hC, fun t _ => rfl⟩
  | fu + 1, e, l, hE, hC, hf => by
    unfold loF at hf ⊢
    by_cases q : e.1.2 = 0
    · rw [if_pos q] at hf ⊢
      refine ⟨q, ?_⟩
      cases hc : o e.1.1 with
      | none => exact ⟨[], by rw [List.append_nil]; exact hC, fun t _ => rfl⟩
      | some c =>
        rw [hc] at hf
        dsimp only at hf ⊢
        obtain ⟨c1, c2⟩ := h2 _ _ hc
        obtain ⟨a1, a2, a3⟩ := EN_adv hR hE q (ho _ _ hc)
        obtain ⟨b1, b2, b3⟩ := hp _ a1
        have h3 := hR.2.1
        have h4 := hE.2.2
        have h5 := b1.2.1
        obtain ⟨d1, d2, d3⟩ := EN_emi h3 b1 (by omega) (zn c) (zn 0)
        have hft : (t (stx (adv e.1) e)).1.2 = 0 := by
          apply Classical.byContradiction
          intro hn
          have hn2 : ¬ (emi (zn c) (zn 0) (t (stx (adv e.1) e))).1.2 = 0 := by rw [d2]; exact hn
          rw [loF_F hn2] at hf
          exact hn2 hf
        obtain ⟨-, m1, k1, k2⟩ := ht _ l a1 (CL_stx hC _) hft
        have hC2 := CL_emi (o := c) (a := 0) k1 (by omega) c2 (by omega)
        obtain ⟨-, m2, j1, j2⟩ := HL_loF hR ht hp ho h2 fu _ _ d1 hC2 hf
        refine ⟨m1 ++ [(c, 0)] ++ m2, by rw [← List.append_assoc, ← List.append_assoc]; exact j1, fun u hu => ?_⟩
        rw [List.append_assoc, hg_app _ _ _ _ (k2 (u + 1) (by omega)), List.singleton_append]
        rw [hg_cons, if_neg (by show ¬ c ≤ 5; omega), if_neg (by show ¬ c = 6; omega), if_pos (by omega), show u + 1 + 1 - 1 = u + 1 by omega]
        exact j2 u (by omega)
    · rw [if_neg q] at hf
      exact absurd hf q
theorem HG_comp {P1 P2 : EST → EST} {b : Nat} (hp : PG N P1) (h1 : HG N P1 b) (h2 : HL N P2 (b + 1)) (hs : ∀ e, (P2 e).1.2 = 0 → e.1.2 = 0) : HG N (fun e => P2 (P1 e)) (b + 1) := by
  intro e l hE hC hf
  obtain ⟨a1, a2, a3⟩ := hp e hE
  have hf1 : (P1 e).1.2 = 0 := hs _ hf
  obtain ⟨k0, m1, k1, k2⟩ := h1 e l hE hC hf1
  obtain ⟨-, m2, j1, j2⟩ := h2 _ _ a1 k1 hf
  refine ⟨k0, m1 ++ m2, by rw [← List.append_assoc]; exact j1, fun t ht => ?_⟩
  rw [hg_app _ _ _ _ (k2 t (by omega))]
  exact j2 t (by omega)
theorem loF_S {t : EST → EST} {o : Nat → Option Nat} {f : Nat} (e : EST) (h : (loF t o f e).1.2 = 0) : e.1.2 = 0 := by
  apply Classical.byContradiction
  intro hn
  rw [loF_F hn] at h
  exact hn h
theorem J2_P : J2 (oP L tp) := by
  intro k c h
  unfold oP at h
  split at h
  · cases h; omega
  · cases h
theorem J2_S : J2 (oS L tp) := by
  intro k c h
  unfold oS at h
  split at h
  · cases h; omega
  · split at h
    · cases h; omega
    · cases h
theorem J2_T : J2 (oT L tp) := by
  intro k c h
  unfold oT at h
  split at h
  · cases h; omega
  · split at h
    · cases h; omega
    · cases h
theorem J2_E : J2 (oE L tp) := by
  intro k c h
  unfold oE at h
  split at h
  · cases h; omega
  · split at h
    · cases h; omega
    · cases h
theorem HG_prG (hR : RTK L tp N f g v) {P : EST → EST} {b : Nat} (hp : PG N P) (h : HG N P b) : HG N (prG L tp P) (b + 1) := HG_comp (P1 := P) (P2 := loF P (oP L tp) 1000) hp h (HL_loF hR h hp JO_P J2_P 1000) loF_S
theorem HG_smG (hR : RTK L tp N f g v) {P : EST → EST} {b : Nat} (hp : PG N P) (h : HG N P b) : HG N (smG L tp P) (b + 2) := HG_comp (P1 := prG L tp P) (P2 := loF (prG L tp P) (oS L tp) 1000) (PG_prG hR hp) (HG_prG hR hp h) (HL_loF hR (HG_prG hR hp h) (PG_prG hR hp) JO_S J2_S 1000) loF_S
theorem HG_tsG (hR : RTK L tp N f g v) {P : EST → EST} {b : Nat} (hp : PG N P) (h : HG N P b) : HG N (tsG L tp P) (b + 3) := HG_comp (P1 := smG L tp P) (P2 := loF (smG L tp P) (oT L tp) 1) (PG_smG hR hp) (HG_smG hR hp h) (HL_loF hR (HG_smG hR hp h) (PG_smG hR hp) JO_T J2_T 1) loF_S
theorem HG_exG (hR : RTK L tp N f g v) {P : EST → EST} {b : Nat} (hp : PG N P) (h : HG N P b) : HG N (exG L tp P) (b + 4) := HG_comp (P1 := tsG L tp P) (P2 := loF (tsG L tp P) (oE L tp) 1000) (PG_tsG hR hp) (HG_tsG hR hp h) (HL_loF hR (HG_tsG hR hp h) (PG_tsG hR hp) JO_E J2_E 1000) loF_S
theorem HG_ptF (hL : L ≤ 1000) (hR : RTK L tp N f g v) : ∀ k, HG N (ptF L tp k) (4 * k + 1)
  | 0, e, l, hE, hC, hf => by
    exfalso
    unfold ptF at hf
    revert hf
    show ¬ (if csq L tp e.1.1 = true then flt L tp 5 e.1 else flt L tp 1 e.1).2 = 0
    split <;> exact flt_n (by omega)
  | k + 1, e, l, hE, hC, hf => by
    have hN := hR.2.1
    have h9 := hE.2.2
    have h8 := hE.2.1
    by_cases q : e.1.2 = 0
    · refine ⟨q, ?_⟩
      unfold ptF at hf ⊢
      by_cases hc : csq L tp e.1.1 = true
      · rw [if_pos hc, if_pos q] at hf ⊢
        by_cases q2 : wdq L tp e.1.1 13 = true
        · rw [if_pos q2] at hf ⊢
          obtain ⟨a1, a2, a3⟩ := EN_adv hR hE q (by rw [wdq_1 q2]; omega)
          obtain ⟨b1, b2, b3⟩ := PG_ptF hL hR k _ a1
          have h7 := b1.2.1
          have hx : (emi (zn 6) (zn 0) (ptF L tp k (stx (adv e.1) e))).1 = (ptF L tp k (stx (adv e.1) e)).1 := (EN_emi hN b1 (by omega) (zn 6) (zn 0)).2.1
          rw [hx] at hf
          obtain ⟨-, m, k1, k2⟩ := HG_ptF hL hR k _ l a1 (CL_stx hC _) hf
          refine ⟨m ++ [(6, 0)], by rw [← List.append_assoc]; exact CL_emi k1 (by omega) (by omega) (by omega), fun t ht => ?_⟩
          rw [hg_app _ _ _ _ (k2 t (by omega)), hg_cons, if_neg (by show ¬ 6 ≤ 5; omega), if_pos rfl, if_pos (by omega)]
          rfl
        · rw [if_neg q2] at hf ⊢
          by_cases q3 : sgq L tp e.1.1 40 = true
          · rw [if_pos q3] at hf ⊢
            obtain ⟨a1, a2, a3⟩ := EN_adv hR hE q (by rw [sgq_3 q3]; omega)
            have hf2 : (exG L tp (ptF L tp k) (stx (adv e.1) e)).1.2 = 0 := (tsg_fine hf).1
            obtain ⟨-, m, k1, k2⟩ := HG_exG hR (PG_ptF hL hR k) (HG_ptF hL hR k) _ l a1 (CL_stx hC _) hf2
            exact ⟨m, CL_stx k1 _, fun t ht => k2 t (by omega)⟩
          · rw [if_neg q3] at hf ⊢
            have hfl := fcq_lt L tp e.1.1
            by_cases q4 : fcq L tp e.1.1 = 0
            · have q5 : tkS L tp (ps L tp e.1.1) = 2 := by
                unfold csq at hc
                simpa [q2, q3, q4] using hc
              have hnb := nbq_lt q5
              have h10 := RTK_lt hR hE.2.1 (by omega)
              rw [if_pos q4, q4]
              refine ⟨[(0, nbq L tp e.1.1)], CL_stx (CL_emi hC (by omega) (by omega) hnb) _, fun t ht => ?_⟩
              rw [hg_cons, if_pos (by show 0 ≤ 5; omega), if_pos (by omega)]
              rfl
            · have q5 := fcq_1 q4
              have h10 := RTK_lt hR hE.2.1 (by omega)
              rw [if_neg q4]
              refine ⟨[(fcq L tp e.1.1, 0)], CL_stx (CL_emi hC (by omega) (by omega) (by omega)) _, fun t ht => ?_⟩
              rw [hg_cons, if_pos (by show fcq L tp e.1.1 ≤ 5; omega), if_pos (by omega)]
              rfl
      · rw [if_neg hc] at hf
        exact absurd hf (flt_n (by omega))
    · rw [ptF_F q] at hf
      exact absurd hf q
end HH
