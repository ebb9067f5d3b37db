/-! FUSE: both sides -/
/-- w numbers n classes of n things in order: it is the identity -/
theorem LW_id {m : Nat} {w : Nat → Nat} (h : LW m (w, m)) : ∀ j, j < m → w j = j := by
  have key : ∀ t j, j + t + 1 = m → ∀ i, j ≤ i → i < m → w i = i := by
    intro t
    induction t with
    | zero =>
      intro j hj i h1 h2
      obtain ⟨x, h3, h4⟩ := h.2.2.2.1 j (by show j < m; omega)
      have h5 : w x ≤ x := h.2.2.2.2 x h3
      have h6 : w x = j := h4
      have : x = i := by omega
      rw [← this]; omega
    | succ t ih =>
      intro j hj i h1 h2
      by_cases q : j < i
      · exact ih (j + 1) (by omega) i (by omega) h2
      · have e : i = j := by omega
        subst e
        obtain ⟨x, h3, h4⟩ := h.2.2.2.1 i (by show i < m; omega)
        have h6 : w x = i := h4
        have h5 : w x ≤ x := h.2.2.2.2 x h3
        by_cases q2 : x = i
        · rw [← q2]; omega
        · have := ih (i + 1) (by omega) x (by omega) h3
          omega
  intro j hj
  exact key (m - 1) 0 (by omega) j (by omega) hj
theorem zns_one {f : Nat → Nat} {m x : Nat} (hx : x < m) (h : ∀ i, i < m → i ≠ x → f i = 0) : zns f 0 m = f x := by
  have key : ∀ r k, (k ≤ x → x < k + r → zns f k r = f x ∨ ¬ k + r ≤ m) ∧ (x < k → k + r ≤ m → zns f k r = 0) := by
    intro r
    induction r with
    | zero => intro k; exact ⟨fun h1 h2 => by omega, fun _ _ => rfl⟩
    | succ r ih =>
      intro k
      refine ⟨fun h1 h2 => ?_, fun h1 h2 => ?_⟩
      · by_cases q : k + (r + 1) ≤ m
        · left
          simp only [zns]
          by_cases q2 : k = x
          · subst q2
            rw [(ih (k + 1)).2 (by omega) (by omega), Nat.add_zero]
          · rw [h k (by omega) q2, Nat.zero_add]
            rcases (ih (k + 1)).1 (by omega) (by omega) with h3 | h3
            · exact h3
            · omega
        · right; exact q
      · simp only [zns]
        rw [h k (by omega) (by omega), (ih (k + 1)).2 (by omega) (by omega)]
  rcases (key m 0).1 (by omega) (by omega) with h1 | h1
  · exact h1
  · omega
theorem tgT_id {T : ZT} {w : Nat → Nat} (hw : ∀ j, j < T.1 → w j = j) (x y k : Nat) (hx : x < T.1) (hy : y < T.1) : tgT T w x y k = T.2.1 x y k := by
  unfold tgT
  rw [zns_one hx (fun i hi hne => zns_z _ _ (fun j _ _ => if_neg (fun h => hne (by rw [← h.1, hw i hi])))), zns_one hy (fun j hj hne => if_neg (fun h => hne (by rw [← h.2, hw j hj])))]
  rw [if_pos ⟨hw x hx, hw y hy⟩]
theorem lsT_id {m : Nat} {w : Nat → Nat} (hw : ∀ j, j < m → w j = j) (x : Nat) (hx : x < m) : lsT m w x = x := by
  have := lsT_spec (w := w) hx
  rw [hw x hx] at this
  have h2 := hw _ this.1
  omega
theorem ga_id {T : ZT} (hW : WT T) {w : Nat → Nat} (h : LW T.1 (w, T.1)) : gokT T w 1 T.1 = true ∧ ∀ f, RT (gaT T w 1 T.1) f → RT T f := by
  have hid := LW_id h
  constructor
  · unfold gokT
    rw [zall_iff]
    intro x _ hx
    show gokX T w 1 T.1 x = true
    unfold gokX
    rw [zall_iff]
    intro y _ hy
    show gokY T w 1 T.1 x y = true
    unfold gokY
    rw [zall_iff]
    intro z _ hz
    unfold gok
    rw [decide_eq_true_eq]
    refine ⟨Nat.mod_one _, ?_⟩
    rw [Nat.div_one, lsT_id hid z (by omega), tgT_id hid x y z (by omega) (by omega)]
    exact hW.2.2.1 _ _ _
  · intro f hf
    refine ⟨hf.1, fun i hi => ?_, fun i j k hi hj hk => ?_⟩
    · rw [hf.2.1 i hi]
      show zn (rP T.1 (gaR T w) T.1 i) = _
      unfold rP gaR
      rw [if_pos hi, if_pos hi, lsT_id hid i hi, hid _ (hW.2.2.2.1 i hi)]
    · rw [hf.2.2 i j k hi hj hk]
      show zn (pS T.1 (gaF T w 1) T.1 0 0 i j k) = _
      unfold pS gaF
      rw [if_pos (by omega), Nat.div_one, lsT_id hid k hk, tgT_id hid i j k hi hj]
theorem GV_ext {c c' : Nat → mq_E} {g a : Nat} {T : ZT} (h : GV c g a T) (hb : ∀ b, g ≤ b → b ≤ g + 4 → c' b = c b) : GV c' g a T := by
  obtain ⟨h1, h2, h3, i, f, h4, h5⟩ := h
  refine ⟨h1, h2, h3, i, f, ?_, h5⟩
  funext b
  by_cases q : b < g ∨ g + 4 < b
  · rw [gc_ne b q]
  · rw [hb b (by omega) (by omega), ← congrFun h4 b]
    unfold gc
    by_cases q2 : b = g
    · rw [if_pos q2, if_pos q2]
    · rw [if_neg q2, if_neg q2, if_pos (by omega), if_pos (by omega)]
theorem TB_ext {c c' : Nat → mq_E} {a : Nat} {T : ZT} (hT : TB c a T) (h : ∀ b, a ≤ b → b ≤ a + 2 → c' b = c b) : TB c' a T := by
  obtain ⟨k1, ⟨x1, x2, x3, x4, x5, x6, k2⟩, g1, r1, k3, k4, k5⟩ := hT
  exact ⟨k1, ⟨x1, x2, x3, x4, x5, x6, by rw [h a (by omega) (by omega)]; exact k2⟩, g1, r1, by rw [h (a + 1) (by omega) (by omega)]; exact k3, by rw [h (a + 2) (by omega) (by omega)]; exact k4, k5⟩
/-- as CQ, with the room that was used -/
def CE (kn ks n s : Nat) (c : Nat → mq_E) (a : Nat) (T : ZT) (rs gs : Value) (n' s' : Nat) (c' : Nat → mq_E) : Prop := n ≤ n' ∧ n' ≤ n + kn ∧ s ≤ s' ∧ s' ≤ s + ks ∧ (∀ x, x < n ∨ n' ≤ x → x ≠ a → (∀ g, gs = .ref g → x < g ∨ g + 4 < x) → c' x = c x) ∧ (∃ b bi bj bk gs', (b = -1 ∨ jd T b bi bj bk) ∧ c' a = tbo T.1 a b bi bj bk rs gs' ∧ (gs' = .null ∨ ∃ g, gs' = .ref g ∧ g + 4 < n' ∧ GV c' g a T ∧ (gs = .ref g ∨ n ≤ g))) ∧ TB c' a T
theorem CE_of {n s : Nat} {c : Nat → mq_E} {a : Nat} {T : ZT} {rs gs : Value} {n' s' : Nat} {c' : Nat → mq_E} (h : CQ n s c a T rs gs n' s' c') : CE 5 104 n s c a T rs gs n' s' c' := h
theorem CE_ext {kn ks k2 t2 n s : Nat} {c : Nat → mq_E} {a : Nat} {T : ZT} {rs gs : Value} {n1 s1 n2 s2 : Nat} {c1 c2 : Nat → mq_E} (h : CE kn ks n s c a T rs gs n1 s1 c1) (ha : a + 2 < n) (hc : ∀ b, b < n1 ∨ n2 ≤ b → c2 b = c1 b) (h1 : n1 ≤ n2) (h2 : n2 ≤ n1 + k2) (h3 : s1 ≤ s2) (h4 : s2 ≤ s1 + t2) : CE (kn + k2) (ks + t2) n s c a T rs gs n2 s2 c2 := by
  obtain ⟨a1, a2, a3, a4, a5, ⟨b, bi, bj, bk, gs', a6, a7, a8⟩, a9⟩ := h
  refine ⟨by omega, by omega, by omega, by omega, fun x hx hxa hxg => by rw [hc x (by omega), a5 x (by omega) hxa hxg], ⟨b, bi, bj, bk, gs', a6, by rw [hc a (by omega)]; exact a7, ?_⟩, TB_ext a9 (fun b _ hb => hc b (by omega))⟩
  rcases a8 with a8 | ⟨g, e1, e2, e3, e4⟩
  · exact Or.inl a8
  · have e2' : g + 4 < n1 := e2
    exact Or.inr ⟨g, e1, Nat.lt_of_lt_of_le e2' h1, GV_ext e3 (fun b _ hb => hc b (Or.inl (Nat.lt_of_le_of_lt hb e2'))), e4⟩
/-- the heap after a table was DONE -/
def dI (I : Nat → Int32) (p : Nat) : Nat → Int32 := zu (zu I 802 (zn (dw p))) 803 (zn 0)
def dQ (Q : Nat → Nat → Option Nat) (p a : Nat) : Nat → Nat → Option Nat := zu (zu Q 17 (pq p (Q 17) a)) 18 (nq 12 (Q 18))
section FZ
variable {n s : Nat} {c : Nat → mq_E} {I : Nat → Int32} {J : Nat → Int64} {A : Nat → Nat → Int32} {B : Nat → Nat → Int64} {R : Nat → Value} {Q : Nat → Nat → Option Nat}
variable {a b : Nat} {T T' : ZT}
theorem C_takeN (d : Nat) : mz d 172 0 [some (.ref 0), some .null] [] (hp n s c I J A B R Q) = some (some (some (.int (-1))), (hp n s c I J A B R Q)) := by
  simp only [x172_0, x172_0N, x172_1N, x172_1, x172_4, x172_5, x172_6, x172_6N, x172_7, x172_10, x172_10N, x172_11, x172_14, x172_14N, x172_15, x172_18, mq_dl_int, mq_dl_ref, mq_dl_null, mq_dl_none, mc_some, Option.toList_some, Option.toList_none, List.cons_append, List.nil_append, zb_1, zb_0, ↓reduceIte, if_true, if_false, not_true_eq_false, not_false_eq_true, Bool.false_eq_true, z_10, z_01, eq_self, Bool.and_self, true_or, or_true, false_or, or_false, true_and, and_true, false_and, and_false, and_self, or_self]
theorem C_take (hb : TB c b T') (p : Nat) (hP : p ≤ 12) (hI : I 802 = zn p) (hR : R 804 = .ref a) (ha : isT c a) (hq : ∀ i, i < p → ∃ a, Q 17 i = some a ∧ isT c a) (d : Nat) : mz (d + 2) 172 0 [some (.ref 0), some (.ref b)] [] (hp n s c I J A B R Q) = some (some (some (.int (zn T'.1))), hp n s c (dI I p) J A B (zu R 804 (.ref b)) (dQ Q p a)) := by
  have h1 := C_done (n := n) (s := s) (c := c) (I := I) (J := J) (A := A) (B := B) (R := R) (Q := Q) d p a b hP hI hR ha hq
  unfold dI dQ
  simp (disch := first | omega | exact zb_1 | exact zb_0 | exact zb_n1 | exact zb_n0) only [x172_0, x172_0N, x172_1N, x172_1, x172_4, x172_5, x172_6, x172_6N, x172_7, x172_10, x172_10N, x172_11, x172_14, x172_14N, x172_15, x172_18, mq_dl_int, mq_dl_ref, mq_dl_null, mq_dl_none, mc_some, Option.toList_some, Option.toList_none, List.cons_append, List.nil_append, zb_1, zb_0, ↓reduceIte, if_true, if_false, not_true_eq_false, not_false_eq_true, Bool.false_eq_true, z_10, z_01, eq_self, Bool.and_self, true_or, or_true, false_or, or_false, true_and, and_true, false_and, and_false, and_self, or_self, hp_1, hp_21, upd_zu, updL_zu, updQ_zu, zu_eq, zu_ne, ho_0, ho_0_0, hf_0_0, ho_0_1, hf_0_1, ho_0_2, hf_0_2, ho_0_3, hf_0_3, ho_0_4, hf_0_4, ho_0_5, hf_0_5, ho_0_6, hf_0_6, ho_0_7, hf_0_7, hk_0_7, hw_0_7, ho_1, ho_1_0, hf_1_0, ho_1_1, hf_1_1, hk_1_1, hw_1_1, ho_1_2, hf_1_2, hk_1_2, hw_1_2, ho_1_3, hf_1_3, hk_1_3, hw_1_3, ho_1_4, hf_1_4, hk_1_4, hw_1_4, ho_1_5, hf_1_5, hk_1_5, hw_1_5, hn_2, hi_2, hg_2, hu_2, ho_3, ho_3_0, hf_3_0, ho_3_1, hf_3_1, ho_3_2, hf_3_2, hk_3_2, hw_3_2, ho_3_3, hf_3_3, hk_3_3, hw_3_3, hn_4, hi_4, hj_4, hg_4, hu_4, ho_5, ho_5_0, hf_5_0, ho_5_1, hf_5_1, ho_5_2, hf_5_2, ho_5_3, hf_5_3, hk_5_3, hw_5_3, ho_6, ho_6_0, hf_6_0, ho_6_1, hf_6_1, ho_6_2, hf_6_2, ho_6_3, hf_6_3, hk_6_3, hw_6_3, hn_7, hi_7, hj_7, hg_7, hu_7, hn_8, hi_8, hj_8, hg_8, hu_8, hn_9, hi_9, hj_9, hg_9, hu_9, ho_10, ho_10_0, hf_10_0, ho_10_1, hf_10_1, ho_10_2, hf_10_2, ho_10_3, hf_10_3, hk_10_3, hw_10_3, ho_10_4, hf_10_4, hk_10_4, hkN_10_4, hw_10_4, hn_11, hi_11, hj_11, hg_11, hu_11, hn_12, hi_12, hj_12, hg_12, hu_12, hn_13, hi_13, hj_13, hg_13, hu_13, hn_14, hi_14, hg_14, hu_14, hn_15, hi_15, hg_15, hu_15, ho_16, ho_16_0, hf_16_0, ho_16_1, hf_16_1, ho_16_2, hf_16_2, hk_16_2, hw_16_2, ho_16_3, hf_16_3, hk_16_3, hw_16_3, ho_16_4, hf_16_4, hk_16_4, hkN_16_4, hw_16_4, hn_17, hi_17, hg_17, hu_17, hn_18, hi_18, hg_18, hu_18, hn_22, hi_22, hg_22, hu_22, h1, tb_0 hb, T_things hb]
end FZ
