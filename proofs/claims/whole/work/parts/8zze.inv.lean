/-! THE INVARIANT of both sides -/
theorem LVS_step {V : VT} {c c' : Nat → mq_E} {n n' a : Nat} {T : ZT} {rs gs : Value} (h : ∀ e T, V e = some T → LV c n e T) (ha : V a = some T) (hr : RsV c n a T rs) (hg : GsV c n a T gs) (hF : FRM c c' n a rs gs) (hn : n ≤ n') (hL : LV c' n' a T) : ∀ e T, V e = some T → LV c' n' e T := by
  intro e T' he
  by_cases q : e = a
  · subst q
    rw [ha] at he
    cases he
    exact hL
  · exact LV_oth (h a T ha).1 hr hg hF hn q (h e T' he)
theorem FRM_mo {c c' : Nat → mq_E} {n a : Nat} {rs gs : Value} (h : FRM c c' n a .null .null) : FRM c c' n a rs gs := fun x h1 h2 _ _ => h x h1 h2 (fun g e => by cases e) (fun g e => by cases e)
theorem LV_jd {c : Nat → mq_E} {n a : Nat} {T : ZT} {b bi bj bk b' bi' bj' bk' : Int32} {rs gs : Value} (h : LV c n a T) (hc : c a = tbo T.1 a b bi bj bk rs gs) (hj : b' = -1 ∨ jd T b' bi' bj' bk') : LV (mq_up c a (tbo T.1 a b' bi' bj' bk' rs gs)) n a T ∧ FRM c (mq_up c a (tbo T.1 a b' bi' bj' bk' rs gs)) n a .null .null := by
  have hF : FRM c (mq_up c a (tbo T.1 a b' bi' bj' bk' rs gs)) n a .null .null := fun x _ h2 _ _ => up_ne _ _ _ _ h2
  obtain ⟨k1, k2, k3, x1, x2, x3, x4, rs', gs', k4, k5, k6, k7⟩ := h
  rw [hc] at k4
  obtain ⟨_, _, _, _, e5, e6⟩ := tbo_inj k4
  subst e5 e6
  refine ⟨⟨TB_up k1 _ _ _ _ _ _, k2, k3, b', bi', bj', bk', rs, gs, up_eq _ _ _, hj, ?_, ?_⟩, hF⟩
  · exact RsV_fr (gs := .null) k1 k6 (Or.inl rfl) hF (Nat.le_refl _)
  · exact GsV_fr (rs := .null) k1 (Or.inl rfl) k7 hF (Nat.le_refl _)
section INV
variable {n s n' s' : Nat} {c c' : Nat → mq_E} {a : Nat} {T : ZT} {b bi bj bk : Int32} {rs gs : Value}
theorem CP_LV (h : CP n s c a T rs n' s' c') (hL : LV c n a T) (hr : RsV c n a T rs) : LV c' n' a T ∧ FRM c c' n a .null .null := by
  obtain ⟨h1, h2, h3, h4, h5, ⟨b, bi, bj, bk, gs', h6, h7, h8⟩, h9⟩ := h
  have hF : FRM c c' n a .null .null := fun x hx hxa _ _ => h5 x (Or.inl hx) hxa
  have := hL.2.2.1
  exact ⟨⟨h9, hL.2.1, by omega, b, bi, bj, bk, rs, gs', h7, h6, RsV_fr (gs := .null) hL.1 hr (Or.inl rfl) hF h1, h8⟩, hF⟩
theorem CE_LV {kn ks : Nat} (h : CE kn ks n s c a T rs gs n' s' c') (hL : LV c n a T) (hr : RsV c n a T rs) (hg : GsV c n a T gs) : LV c' n' a T ∧ FRM c c' n a .null gs := by
  obtain ⟨h1, h2, h3, h4, h5, ⟨b, bi, bj, bk, gs', h6, h7, h8⟩, h9⟩ := h
  have hF : FRM c c' n a .null gs := fun x hx hxa _ hxg => h5 x (Or.inl hx) hxa hxg
  have := hL.2.2.1
  refine ⟨⟨h9, hL.2.1, by omega, b, bi, bj, bk, rs, gs', h7, h6, RsV_fr hL.1 hr hg hF h1, ?_⟩, hF⟩
  rcases h8 with e | ⟨g, e1, e2, e3, _⟩
  · exact Or.inl e
  · exact Or.inr ⟨g, e1, e2, e3⟩
theorem CQ_CE (h : CQ n s c a T rs gs n' s' c') : CE 5 104 n s c a T rs gs n' s' c' := h
theorem CRP_LV (h : CRP n s c a T rs gs n' s' c') (hL : LV c n a T) (hr : RsV c n a T rs) (hg : GsV c n a T gs) : LV c' n' a T ∧ FRM c c' n a rs .null := by
  obtain ⟨h1, h2, h3, h4, h5, ⟨b, bi, bj, bk, rs', h6, h7, h8⟩, h9⟩ := h
  have hF : FRM c c' n a rs .null := fun x hx hxa hxg _ => h5 x (Or.inl hx) hxa hxg
  have := hL.2.2.1
  refine ⟨⟨h9, hL.2.1, by omega, b, bi, bj, bk, rs', gs, h7, h6, ?_, GsV_fr hL.1 hr hg hF h1⟩, hF⟩
  rcases h8 with e | ⟨g, e1, e2, e3, _⟩
  · exact Or.inl e
  · exact Or.inr ⟨g, e1, e2, e3⟩
end INV
/-- what both sides hold after K calls; the script has L ints xs -/
def GI (K L : Nat) (xs : Nat → Int32) (V : VT) (a p f t : Nat) (n s : Nat) (c : Nat → mq_E) (I : Nat → Int32) (J : Nat → Int64) (A : Nat → Nat → Int32) (B : Nat → Nat → Int64) (R : Nat → Value) (Q : Nat → Nat → Option Nat) : Prop :=
  (46 ≤ n ∧ n ≤ 100 + 20 * K ∧ s ≤ 100000 + 1000 * K) ∧ (STR c ∧ c 1000000000 = .inl (5, L, .inl xs)) ∧ (t ≤ 1000 ∧ I 51 = zn t ∧ I 1152 = zn t ∧ A 24 = A 2 ∧ ∀ i, i < t → ∃ k, k < 128 ∧ A 2 i = zn k) ∧ (R 804 = .ref a ∧ I 802 = zn p ∧ I 803 = zn f ∧ I 1162 = zn p ∧ I 1161 = zn (p + f + 1)) ∧ (HI V a p f Q (A 29) ∧ MI V Q (A 44) (A 29)) ∧ I 7 = I 1171 ∧ WRD B ∧ ∀ e T, V e = some T → LV c n e T
theorem STR_to {c c' : Nat → mq_E} (h : STR c) (he : ∀ x, 1000000000 ≤ x → c' x = c x) : STR c' := by
  intro i hi
  rw [he _ (by omega), he _ (by omega)]
  exact h i hi
theorem LVS_VW {V : VT} {c : Nat → mq_E} {n : Nat} (h : ∀ e T, V e = some T → LV c n e T) : VW V := fun e T he => (h e T he).2.1
theorem s_up {s s' K : Nat} (h : s ≤ 100000 + 1000 * K) (h2 : s' ≤ s + 1000) : s' ≤ 100000 + 1000 * (K + 1) := by
  rw [Nat.mul_add, ← Nat.add_assoc]
  exact Nat.le_trans h2 (Nat.add_le_add_right h _)
/-- a call that changes neither tape nor history -/
theorem GI_keep {K L : Nat} {xs : Nat → Int32} {V : VT} {a p f t n s n' s' : Nat} {c c' : Nat → mq_E} {I I' : Nat → Int32} {J J' : Nat → Int64} {A A' : Nat → Nat → Int32} {B B' : Nat → Nat → Int64} {R R' : Nat → Value} {Q : Nat → Nat → Option Nat} (h : GI K L xs V a p f t n s c I J A B R Q) (hK : K ≤ 600) (hn : n ≤ n') (hn2 : n' ≤ n + 20) (hs2 : s' ≤ s + 1000) (hc : ∀ x, n' ≤ x → c' x = c x) (hL : ∀ e T, V e = some T → LV c' n' e T) (hI : ∀ k, k = 7 ∨ k = 51 ∨ k = 802 ∨ k = 803 ∨ k = 1152 ∨ k = 1161 ∨ k = 1162 ∨ k = 1171 → I' k = I k) (hA : ∀ k, k = 2 ∨ k = 24 ∨ k = 29 ∨ k = 44 → A' k = A k) (hB : B' 28 = B 28) (hR : R' 804 = R 804) : GI (K + 1) L xs V a p f t n' s' c' I' J' A' B' R' Q := by
  obtain ⟨⟨a1, a2, a3⟩, ⟨b1, b2⟩, ⟨c1, c2, c3, c4, c5⟩, ⟨d1, d2, d3, d4, d5⟩, ⟨e1, e2⟩, e3, e4, e5⟩ := h
  have z1 : 46 ≤ n' := by omega
  have z2 : n' ≤ 100 + 20 * (K + 1) := by omega
  have z3 : s' ≤ 100000 + 1000 * (K + 1) := s_up a3 hs2
  refine ⟨⟨z1, z2, z3⟩, ⟨STR_to b1 (fun x hx => hc x (by omega)), by rw [hc _ (by omega)]; exact b2⟩, ⟨c1, by rw [hI 51 (by omega)]; exact c2, by rw [hI 1152 (by omega)]; exact c3, by rw [hA 24 (by omega), hA 2 (by omega)]; exact c4, by rw [hA 2 (by omega)]; exact c5⟩, ⟨by rw [hR]; exact d1, by rw [hI 802 (by omega)]; exact d2, by rw [hI 803 (by omega)]; exact d3, by rw [hI 1162 (by omega)]; exact d4, by rw [hI 1161 (by omega)]; exact d5⟩, ⟨by rw [hA 29 (by omega)]; exact e1, by rw [hA 29 (by omega), hA 44 (by omega)]; exact e2⟩, by rw [hI 7 (by omega), hI 1171 (by omega)]; exact e3, fun w hw => by rw [hB]; exact e4 w hw, hL⟩
/-- what is known of the table of now -/
theorem GI_now {K L : Nat} {xs : Nat → Int32} {V : VT} {a p f t n s : Nat} {c : Nat → mq_E} {I : Nat → Int32} {J : Nat → Int64} {A : Nat → Nat → Int32} {B : Nat → Nat → Int64} {R : Nat → Value} {Q : Nat → Nat → Option Nat} (h : GI K L xs V a p f t n s c I J A B R Q) : ∃ T, V a = some T ∧ LV c n a T ∧ RT T (A 29) := by
  obtain ⟨_, _, _, _, ⟨e1, e2⟩, _, _, e5⟩ := h
  obtain ⟨e, T, h1, h2, h3⟩ := e1.2.1
  cases h1
  rw [sl_0] at h3
  exact ⟨T, h2, e5 a T h2, h3⟩
theorem HI_q {V : VT} {c : Nat → mq_E} {a p f n : Nat} {Q : Nat → Nat → Option Nat} {g : Nat → Int32} (hL : ∀ e T, V e = some T → LV c n e T) (h : HI V a p f Q g) : ∀ i, i < p → ∃ e, Q 17 i = some e ∧ isT c e ∧ e < n := by
  intro i hi
  obtain ⟨e, T, h1, h2, h3⟩ := h.2.2.2.1 i hi
  have h4 := hL e T h2
  have := h4.2.2.1
  exact ⟨e, h1, tb_isT h4.1, by omega⟩
