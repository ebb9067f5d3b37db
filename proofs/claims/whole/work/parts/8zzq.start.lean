/-! THE START: both sides stand, and the whole run -/
def T1 : ZT := (1, fun i j k => if i = 0 ∧ j = 0 ∧ k = 0 then 1 else 0, fun _ => 0)
theorem WT_1 : WT T1 := by
  refine ⟨Nat.le_refl 1, (by decide : 1 ≤ 6), fun i j k => ?_, fun i _ => Nat.lt_succ_self 0, fun i j k => ?_, fun i j k h => ?_, fun i k h => ?_, rfl⟩
  · show (if i = 0 ∧ j = 0 ∧ k = 0 then 1 else 0) ≤ 999999
    split <;> omega
  · show (if i = 0 ∧ j = 0 ∧ k = 0 then 1 else 0) = if j = 0 ∧ i = 0 ∧ k = 0 then 1 else 0
    split <;> split <;> omega
  · have h' : 1 ≤ i ∨ 1 ≤ j ∨ 1 ≤ k := h
    show (if i = 0 ∧ j = 0 ∧ k = 0 then 1 else 0) = 0
    rw [if_neg (by omega)]
  · have h' : i < 1 := h
    show (if 0 = 0 ∧ i = 0 ∧ k = 0 then 1 else 0) = if i = k then 1 else 0
    split <;> split <;> omega
def g29 : Nat → Int32 := zu (zu (fun _ => zn 0) 0 (zn 1)) 7 (zn 1)
theorem RT_1 : RT T1 g29 := by
  refine ⟨rfl, fun i h => ?_, fun i j k h1 h2 h3 => ?_⟩
  · have h' : i < 1 := h
    have e : i = 0 := by omega
    subst e
    rfl
  · have a1 : i < 1 := h1
    have a2 : j < 1 := h2
    have a3 : k < 1 := h3
    have e1 : i = 0 := by omega
    have e2 : j = 0 := by omega
    have e3 : k = 0 := by omega
    subst e1 e2 e3
    rfl
theorem rep_1 : zt_rep T1 (zu (fun _ => zn 0) 0 (zn 1)) (zu (fun _ => zn 0) 0 (zn 0)) := by
  refine ⟨fun i j k h1 h2 h3 => ?_, fun i h => ?_⟩
  · show zu (fun _ => zn 0) 0 (zn 1) ((i * 6 + j) * 6 + k) = zn (if i = 0 ∧ j = 0 ∧ k = 0 then 1 else 0)
    by_cases q : i = 0 ∧ j = 0 ∧ k = 0
    · obtain ⟨e1, e2, e3⟩ := q
      subst e1 e2 e3
      rfl
    · rw [if_neg q, zu_ne _ _ _ _ (by omega)]
  · show zu (fun _ => zn 0) 0 (zn 0) i = zn 0
    by_cases q : i = 0
    · rw [q, zu_eq]
    · rw [zu_ne _ _ _ _ q]
theorem byt_nn : ∀ i, i < 16 → (mz_byt.getD i []).length ≤ 9 ∧ ∀ j, j < 9 → ¬ (mz_byt.getD i []).getD j 0 < 0 := by decide +kernel
theorem byt_zn (i j : Nat) (hi : i < 16) : (mz_byt.getD i []).getD j 0 = zn (wb i j) := by
  obtain ⟨h1, h2⟩ := byt_nn i hi
  by_cases q : j < 9
  · exact (zn_of _ (h2 j q)).1
  · unfold wb
    rw [List.getD_eq_getElem?_getD, List.getElem?_eq_none (by omega)]
    rfl
theorem STR_0 (L : Nat) (xs : Nat → Int32) : STR (mz_X L xs) := by
  intro i hi
  constructor
  · unfold mz_X mr_X
    rw [if_neg (by omega), if_pos (by omega), show 1000000001 + i + 99 = 1000000100 + i by omega]
    rfl
  · unfold mz_X mr_X
    rw [if_neg (by omega), if_neg (by omega), if_pos (by omega), show 1000000100 + i - (1000000000 + 100) = i by omega]
    unfold wl
    simp only [byt_zn i _ hi]
def I0 : Nat → Int32 := fun k => if k = 52 then zn 4 else if k = 1161 then zn 1 else zn 0
def A0 : Nat → Nat → Int32 := fun b => if b = 29 then cy 0 6 g29 else fun _ => zn 0
def B0 (W : Nat → Int64) : Nat → Nat → Int64 := fun b => if b = 28 then W else fun _ => 0
def R0 : Nat → Value := fun k => if k = 804 then .ref 19 else .null
def Q0 : Nat → Nat → Option Nat := fun _ _ => none
def V0 : VT := fun e => if e = 19 then some T1 else none
theorem HI_0 : HI V0 19 0 0 Q0 (A0 29) := by
  refine ⟨by decide, ⟨19, T1, rfl, rfl, ?_⟩, ⟨19, T1, rfl, rfl, ?_⟩, fun i h => absurd h (Nat.not_lt_zero i), fun i h => absurd h (Nat.not_lt_zero i)⟩
  · exact RT_congr (by decide) (fun q hq => (sl_cyo 0 6 0 g29 q hq (by decide)).trans (by rw [sl_0])) RT_1
  · exact RT_congr (by decide) (fun q hq => (sl_cyt 0 6 g29 q hq).trans (by rw [sl_0])) RT_1
theorem MI_0 : MI V0 Q0 (A0 44) (A0 29) := fun k _ => Or.inl ⟨rfl, rfl⟩
section ST
variable {L : Nat} {xs : Nat → Int32} {d : Nat}
theorem K_start (hL : L ≤ 3584) : ∃ h' : mq_H, h'.1 ≤ 20000 ∧ h'.2.1 ≤ 1000000 ∧ mz (d + 40) 305 0 [some (.ref 1000000000), none, none, none, none, none, none, none] [] (mz_h0 L xs) = some (some (some (.int 1)), h') := by
  obtain ⟨F1, ⟨p0, p1, p2, p3, p4, p5, p6, p7, p8, p9, p10, p11, p12, p13⟩, ⟨p14, p15, p16, p17, p18, p19, p20, p21, p22⟩, px, pr⟩ := N_cls (d := d + 33) (mz_X L xs)
  obtain ⟨F2, W, w1, q23, ⟨q24, q25, q26, q27, q28, q29, q30, q31, q32, q33, q34⟩, ⟨q35, q36, q37, q38, q39, q40, q41, q42, q43, q44⟩, qx, qr⟩ := N_mod F1 (d + 37)
  have hx : ∀ b, 46 ≤ b → mq_up F2 45 (.inl (3, 1, .inr (.inl (fun _ => 0)))) b = mz_X L xs b := fun b hb => by rw [up_ne _ _ _ _ (by omega), qx b (by omega), px b (by omega)]
  have f19 : mq_up F2 45 (.inl (3, 1, .inr (.inl (fun _ => 0)))) 19 = tbo 1 19 (-1) 0 0 0 .null .null := by rw [up_ne _ _ _ _ (by omega), qx 19 (by omega), p19]
  have f20 : mq_up F2 45 (.inl (3, 1, .inr (.inl (fun _ => 0)))) 20 = .inl (0, 216, .inl (zu (fun _ => zn 0) 0 (zn 1))) := by rw [up_ne _ _ _ _ (by omega), qx 20 (by omega), p20]
  have f21 : mq_up F2 45 (.inl (3, 1, .inr (.inl (fun _ => 0)))) 21 = .inl (0, 6, .inl (zu (fun _ => zn 0) 0 (zn 0))) := by rw [up_ne _ _ _ _ (by omega), qx 21 (by omega), p21]
  have hF : ∀ b, HC (mq_up F2 45 (.inl (3, 1, .inr (.inl (fun _ => 0))))) I0 (fun _ => 0) A0 (B0 W) R0 Q0 b = mq_up F2 45 (.inl (3, 1, .inr (.inl (fun _ => 0)))) b := by
    intro b
    match b with
    | 0 => rw [up_ne _ _ _ _ (by omega), qx 0 (by omega), p0]; rfl
    | 1 => rw [up_ne _ _ _ _ (by omega), qx 1 (by omega), p1]; rfl
    | 2 => rw [up_ne _ _ _ _ (by omega), qx 2 (by omega), p2]; rfl
    | 3 => rw [up_ne _ _ _ _ (by omega), qx 3 (by omega), p3]; rfl
    | 4 => rw [up_ne _ _ _ _ (by omega), qx 4 (by omega), p4]; rfl
    | 5 => rw [up_ne _ _ _ _ (by omega), qx 5 (by omega), p5]; rfl
    | 6 => rw [up_ne _ _ _ _ (by omega), qx 6 (by omega), p6]; rfl
    | 7 => rw [up_ne _ _ _ _ (by omega), qx 7 (by omega), p7]; rfl
    | 8 => rw [up_ne _ _ _ _ (by omega), qx 8 (by omega), p8]; rfl
    | 9 => rw [up_ne _ _ _ _ (by omega), qx 9 (by omega), p9]; rfl
    | 10 => rw [up_ne _ _ _ _ (by omega), qx 10 (by omega), p10]; rfl
    | 11 => rw [up_ne _ _ _ _ (by omega), qx 11 (by omega), p11]; rfl
    | 12 => rw [up_ne _ _ _ _ (by omega), qx 12 (by omega), p12]; rfl
    | 13 => rw [up_ne _ _ _ _ (by omega), qx 13 (by omega), p13]; rfl
    | 14 => rw [up_ne _ _ _ _ (by omega), qx 14 (by omega), p14]; rfl
    | 15 => rw [up_ne _ _ _ _ (by omega), qx 15 (by omega), p15]; rfl
    | 16 => rw [up_ne _ _ _ _ (by omega), qx 16 (by omega), p16]; rfl
    | 17 => rw [up_ne _ _ _ _ (by omega), qx 17 (by omega), p17]; rfl
    | 18 => rw [up_ne _ _ _ _ (by omega), qx 18 (by omega), p18]; rfl
    | 19 => rfl
    | 20 => rfl
    | 21 => rfl
    | 22 => rw [up_ne _ _ _ _ (by omega), qx 22 (by omega), p22]; rfl
    | 23 => rw [up_ne _ _ _ _ (by omega), q23]; rfl
    | 24 => rw [up_ne _ _ _ _ (by omega), q24]; rfl
    | 25 => rw [up_ne _ _ _ _ (by omega), q25]; rfl
    | 26 => rw [up_ne _ _ _ _ (by omega), q26]; rfl
    | 27 => rw [up_ne _ _ _ _ (by omega), q27]; rfl
    | 28 => rw [up_ne _ _ _ _ (by omega), q28]; rfl
    | 29 => rw [up_ne _ _ _ _ (by omega), q29]; rfl
    | 30 => rw [up_ne _ _ _ _ (by omega), q30]; rfl
    | 31 => rw [up_ne _ _ _ _ (by omega), q31]; rfl
    | 32 => rw [up_ne _ _ _ _ (by omega), q32]; rfl
    | 33 => rw [up_ne _ _ _ _ (by omega), q33]; rfl
    | 34 => rw [up_ne _ _ _ _ (by omega), q34]; rfl
    | 35 => rw [up_ne _ _ _ _ (by omega), q35]; rfl
    | 36 => rw [up_ne _ _ _ _ (by omega), q36]; rfl
    | 37 => rw [up_ne _ _ _ _ (by omega), q37]; rfl
    | 38 => rw [up_ne _ _ _ _ (by omega), q38]; rfl
    | 39 => rw [up_ne _ _ _ _ (by omega), q39]; rfl
    | 40 => rw [up_ne _ _ _ _ (by omega), q40]; rfl
    | 41 => rw [up_ne _ _ _ _ (by omega), q41]; rfl
    | 42 => rw [up_ne _ _ _ _ (by omega), q42]; rfl
    | 43 => rw [up_ne _ _ _ _ (by omega), q43]; rfl
    | 44 => rw [up_ne _ _ _ _ (by omega), q44]; rfl
    | 45 => rw [up_eq]; rfl
    | b + 46 =>
      unfold HC
      rw [if_pos (hs_big (b + 46) (by omega))]
  have hG : GI 0 L xs V0 19 0 0 0 46 28192 (mq_up F2 45 (.inl (3, 1, .inr (.inl (fun _ => 0))))) I0 (fun _ => 0) A0 (B0 W) R0 Q0 := by
    refine ⟨⟨by decide, by decide, by decide⟩, ⟨?_, ?_⟩, ⟨by decide, rfl, rfl, rfl, fun i h => absurd h (Nat.not_lt_zero i)⟩, ⟨rfl, rfl, rfl, rfl, rfl⟩, ⟨HI_0, MI_0⟩, rfl, w1, ?_⟩
    · exact STR_to (STR_0 L xs) (fun x h => hx x (by omega))
    · rw [hx _ (by omega)]
      unfold mz_X mr_X
      rw [if_pos rfl]
    · intro e T he
      by_cases q : e = 19
      · subst q
        cases he
        exact LV_new ⟨Or.inr rfl, ⟨_, _, _, _, _, _, f19⟩, _, _, f20, f21, rep_1⟩ WT_1 (by decide) f19
      · unfold V0 at he
        rw [if_neg q] at he
        cases he
  obtain ⟨h', r1, r2, r3⟩ := K_loop (d := d) hL 512 0 0 V0 19 0 0 0 46 28192 _ I0 (fun _ => 0) A0 (B0 W) R0 Q0 none none none (by omega) (by omega) (by omega) hG
  refine ⟨h', r1, r2, ?_⟩
  rw [← r3]
  unfold hp
  rw [show HC (mq_up F2 45 (.inl (3, 1, .inr (.inl (fun _ => 0))))) I0 (fun _ => 0) A0 (B0 W) R0 Q0 = mq_up F2 45 (.inl (3, 1, .inr (.inl (fun _ => 0)))) from funext hF]
  unfold mz_h0
  simp only [Nat.add_assoc, Nat.reduceAdd] at pr qr
  simp (disch := first | omega | exact zb_1 | exact zb_0 | exact zb_n1 | exact zb_n0) only [x305_0, x305_3, x305_4, mq_dl_int, mq_dl_ref, mq_dl_null, mq_dl_none, mc_some, Option.toList_some, Option.toList_none, List.cons_append, List.nil_append, zb_1, zb_0, ↓reduceIte, if_true, if_false, not_true_eq_false, not_false_eq_true, Bool.false_eq_true, z_10, z_01, eq_self, Bool.and_self, true_or, or_true, false_or, or_false, true_and, and_true, false_and, and_false, and_self, or_self, rr_mk, rr_1, Nat.add_assoc, Nat.reduceAdd, pr]
  simp (disch := first | omega | exact zb_1 | exact zb_0 | exact zb_n1 | exact zb_n0) only [x305_7, x305_8, x305_11, x305_12, mq_dl_int, mq_dl_ref, mq_dl_null, mq_dl_none, mc_some, Option.toList_some, Option.toList_none, List.cons_append, List.nil_append, zb_1, zb_0, ↓reduceIte, if_true, if_false, not_true_eq_false, not_false_eq_true, Bool.false_eq_true, z_10, z_01, eq_self, Bool.and_self, true_or, or_true, false_or, or_false, true_and, and_true, false_and, and_false, and_self, or_self, rr_mk, rr_1, Nat.add_assoc, Nat.reduceAdd, qr]
  simp (disch := first | omega | exact zb_1 | exact zb_0 | exact zb_n1 | exact zb_n0) only [x305_15, x305_16, x305_17, x305_19, x305_20, x305_21, mq_dl_int, mq_dl_ref, mq_dl_null, mq_dl_none, mc_some, Option.toList_some, Option.toList_none, List.cons_append, List.nil_append, zb_1, zb_0, ↓reduceIte, if_true, if_false, not_true_eq_false, not_false_eq_true, Bool.false_eq_true, z_10, z_01, eq_self, Bool.and_self, true_or, or_true, false_or, or_false, true_and, and_true, false_and, and_false, and_self, or_self, Nat.reduceLT, Nat.reduceEqDiff, Nat.reduceLeDiff, Nat.reduceAdd, Nat.reduceMul, Nat.reduceSub, zn_lit, zn_add, zn_mul, zn_sub, zn_addneg, zn_lt, zn_le, zn_eq, zn_clamp, zn_in, zn_long, rr_mk, rr_1, Nat.not_lt_zero, Nat.add_assoc, Nat.reduceAdd]
end ST
theorem mz_goal (L : Nat) (xs : Nat → Int32) (hL : L ≤ 3584) : mz_run L xs := by
  obtain ⟨h', r1, r2, r3⟩ := K_start (L := L) (xs := xs) (d := 0) hL
  obtain ⟨n, hn⟩ := mz_iff.mp r3
  exact ⟨n, 40, h', by decide, hn, r1, r2⟩
