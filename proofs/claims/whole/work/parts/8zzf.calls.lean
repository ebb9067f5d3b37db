/-! THE LAW'S CALLS: those that change neither tape nor history -/
theorem zw_cvR {mi pc d idx mj a k x ck : Nat} {ls : mq_L} {h h1 : mq_H} {v : Option Value} {st' as rest : List Value} {en : mq_L} (hi : mp_ins mi pc = some (.invokevirtual idx, 3)) (hl : mp_lk mi idx = some (mj, 0)) (ht : mp_np mj = k ∧ mp_mx mj = x ∧ mp_ck mj = ck) (hlen : k ≤ st'.length) (hs : (st'.take k).reverse = .ref a :: as) (hr : st'.drop k = rest) (hw : (rest.map fun v => v.category).sum ≤ 8) (hal : (mq_al (.ref a :: as)).length ≤ x) (hen : mq_en (.ref a :: as) x = en) (hm : mo0 h a ck = true) (hc : mz d mj 0 en [] h = some (some v, h1)) :
    mz (d + 1) mi pc ls st' h = mz (d + 1) mi (pc + 3) ls (v.toList ++ rest) h1 := by
  obtain ⟨rfl, rfl, rfl⟩ := ht
  subst hen
  subst hr
  unfold mo0 at hm
  have hk : 0 ∈ [0] ∧ mp_np mj ≤ st'.length ∧ ((st'.drop (mp_np mj)).map fun v => v.category).sum ≤ 8 := ⟨by simp, hlen, hw⟩
  cases hf : h.2.2 a with
  | inl x => rw [hf] at hm; cases hm
  | inr x =>
    obtain ⟨cj, fs⟩ := x
    rw [hf] at hm
    have q : cj = mp_ck mj := of_decide_eq_true hm
    exact mz_call (mz_st hi (by simp only [mq_do, mq_call, hl, if_pos hk, if_true, hs, hf, if_pos q])) hal hc
theorem zw_cvT {mi pc d idx mj a k x ck pc2 kk : Nat} {ls : mq_L} {h h1 : mq_H} {st' as rest : List Value} {en : mq_L} (hi : mp_ins mi pc = some (.invokevirtual idx, 3)) (hl : mp_lk mi idx = some (mj, 0)) (ht : mp_np mj = k ∧ mp_mx mj = x ∧ mp_ck mj = ck) (hlen : k ≤ st'.length) (hs : (st'.take k).reverse = .ref a :: as) (hr : st'.drop k = rest) (hw : (rest.map fun v => v.category).sum ≤ 8) (hal : (mq_al (.ref a :: as)).length ≤ x) (hen : mq_en (.ref a :: as) x = en) (hm : mo0 h a ck = true) (hh : mp_hd mi pc = some (pc2, kk)) (hkk : kk < ls.length) (hc : mz d mj 0 en [] h = some (none, h1)) :
    mz (d + 1) mi pc ls st' h = mz (d + 1) mi pc2 ((mq_s1 ls kk .null).set kk none) [] h1 := by
  obtain ⟨rfl, rfl, rfl⟩ := ht
  subst hen
  subst hr
  unfold mo0 at hm
  have hk : 0 ∈ [0] ∧ mp_np mj ≤ st'.length ∧ ((st'.drop (mp_np mj)).map fun v => v.category).sum ≤ 8 := ⟨by simp, hlen, hw⟩
  cases hf : h.2.2 a with
  | inl x => rw [hf] at hm; cases hm
  | inr x =>
    obtain ⟨cj, fs⟩ := x
    rw [hf] at hm
    have q : cj = mp_ck mj := of_decide_eq_true hm
    exact mz_catch (rest := st'.drop (mp_np mj)) (mz_st hi (by simp only [mq_do, mq_call, hl, if_pos hk, if_true, hs, hf, if_pos q])) hal hc hh hkk
theorem x303_5R (d : Nat) (o0 o1 o2 o3 o4 : Option Value) (h h1 : mq_H) (a0 : Nat) (a1 a2 : Int32) (i : Int32) (r : Nat) (v : Option Value) (hm : mo0 h a0 9 = true) (hc : mz d 152 0 [some (.ref a0), some (.int a1), some (.int a2), none] [] h = some (some v, h1)) : mz (d + 1) 303 5 [o0, o1, o2, o3, o4] [.int a2, .int a1, .ref a0, .int i, .ref r] h = mz (d + 1) 303 8 [o0, o1, o2, o3, o4] (v.toList ++ [.int i, .ref r]) h1 := zw_cvR (idx := (match mp_ins 303 5 with | some (.invokevirtual i, _) => i | _ => 0)) (by decide +kernel) (by decide +kernel) (show mp_np 152 = 3 ∧ mp_mx 152 = 4 ∧ mp_ck 152 = 9 by decide +kernel) (Nat.le_add_left _ _) rfl rfl (show _ ≤ 8 from (by simp [Value.category])) (Nat.le_of_ble_eq_true rfl) rfl hm hc
theorem x303_5T (d : Nat) (o0 o1 o2 o3 o4 : Option Value) (h h1 : mq_H) (a0 : Nat) (a1 a2 : Int32) (i : Int32) (r : Nat) (hm : mo0 h a0 9 = true) (hc : mz d 152 0 [some (.ref a0), some (.int a1), some (.int a2), none] [] h = some (none, h1)) : mz (d + 1) 303 5 [o0, o1, o2, o3, o4] [.int a2, .int a1, .ref a0, .int i, .ref r] h = mz (d + 1) 303 15 [o0, o1, o2, mq_dl o3, none] [] h1 := zw_cvT (as := [.int a1, .int a2]) (en := [some (.ref a0), some (.int a1), some (.int a2), none]) (rest := [.int i, .ref r]) (idx := (match mp_ins 303 5 with | some (.invokevirtual i, _) => i | _ => 0)) (by decide +kernel) (by decide +kernel) (show mp_np 152 = 3 ∧ mp_mx 152 = 4 ∧ mp_ck 152 = 9 by decide +kernel) (Nat.le_add_left _ _) rfl rfl (show _ ≤ 8 from (by simp [Value.category])) (Nat.le_of_ble_eq_true rfl) rfl hm (show mp_hd 303 5 = some (15, 4) by decide +kernel) (Nat.le_of_ble_eq_true rfl) hc
theorem x304_9R (d : Nat) (o0 o1 o2 o3 o4 o5 o6 : Option Value) (h h1 : mq_H) (a0 : Nat) (a1 a2 a3 a4 : Int32) (i : Int32) (r : Nat) (v : Option Value) (hm : mo0 h a0 9 = true) (hc : mz d 154 0 [some (.ref a0), some (.int a1), some (.int a2), some (.int a3), some (.int a4), none] [] h = some (some v, h1)) : mz (d + 1) 304 9 [o0, o1, o2, o3, o4, o5, o6] [.int a4, .int a3, .int a2, .int a1, .ref a0, .int i, .ref r] h = mz (d + 1) 304 12 [o0, o1, o2, o3, o4, o5, o6] (v.toList ++ [.int i, .ref r]) h1 := zw_cvR (idx := (match mp_ins 304 9 with | some (.invokevirtual i, _) => i | _ => 0)) (by decide +kernel) (by decide +kernel) (show mp_np 154 = 5 ∧ mp_mx 154 = 6 ∧ mp_ck 154 = 9 by decide +kernel) (Nat.le_add_left _ _) rfl rfl (show _ ≤ 8 from (by simp [Value.category])) (Nat.le_of_ble_eq_true rfl) rfl hm hc
theorem x304_9T (d : Nat) (o0 o1 o2 o3 o4 o5 o6 : Option Value) (h h1 : mq_H) (a0 : Nat) (a1 a2 a3 a4 : Int32) (i : Int32) (r : Nat) (hm : mo0 h a0 9 = true) (hc : mz d 154 0 [some (.ref a0), some (.int a1), some (.int a2), some (.int a3), some (.int a4), none] [] h = some (none, h1)) : mz (d + 1) 304 9 [o0, o1, o2, o3, o4, o5, o6] [.int a4, .int a3, .int a2, .int a1, .ref a0, .int i, .ref r] h = mz (d + 1) 304 18 [o0, o1, o2, o3, o4, mq_dl o5, none] [] h1 := zw_cvT (as := [.int a1, .int a2, .int a3, .int a4]) (en := [some (.ref a0), some (.int a1), some (.int a2), some (.int a3), some (.int a4), none]) (rest := [.int i, .ref r]) (idx := (match mp_ins 304 9 with | some (.invokevirtual i, _) => i | _ => 0)) (by decide +kernel) (by decide +kernel) (show mp_np 154 = 5 ∧ mp_mx 154 = 6 ∧ mp_ck 154 = 9 by decide +kernel) (Nat.le_add_left _ _) rfl rfl (show _ ≤ 8 from (by simp [Value.category])) (Nat.le_of_ble_eq_true rfl) rfl hm (show mp_hd 304 9 = some (18, 6) by decide +kernel) (Nat.le_of_ble_eq_true rfl) hc
section FAR
variable {n s n' s' : Nat} {c c' : Nat → mq_E} {a : Nat} {T : ZT} {rs gs : Value}
theorem CP_far (h : CP n s c a T rs n' s' c') (ha : a + 2 < n) : ∀ x, n' ≤ x → c' x = c x := fun x hx => h.2.2.2.2.1 x (Or.inr hx) (by have := h.1; omega)
theorem CE_far {kn ks : Nat} (h : CE kn ks n s c a T rs gs n' s' c') (ha : a + 2 < n) (hg : GsV c n a T gs) : ∀ x, n' ≤ x → c' x = c x := fun x hx => h.2.2.2.2.1 x (Or.inr hx) (by have := h.1; omega) (fun g e => by
  rcases hg with e2 | ⟨g2, e2, h2, _⟩
  · rw [e2] at e; cases e
  · rw [e2] at e
    cases e
    exact Or.inr (Nat.lt_of_lt_of_le h2 (Nat.le_trans h.1 hx)))
theorem CRP_far (h : CRP n s c a T rs gs n' s' c') (ha : a + 2 < n) (hr : RsV c n a T rs) : ∀ x, n' ≤ x → c' x = c x := fun x hx => h.2.2.2.2.1 x (Or.inr hx) (by have := h.1; omega) (fun g e => by
  rcases hr with e2 | ⟨g2, e2, h2, _⟩
  · rw [e2] at e; cases e
  · rw [e2] at e
    cases e
    exact Or.inr (Nat.lt_of_lt_of_le h2 (Nat.le_trans h.1 hx)))
end FAR
section LAWC
variable {n s : Nat} {c : Nat → mq_E} {I : Nat → Int32} {J : Nat → Int64} {A : Nat → Nat → Int32} {B : Nat → Nat → Int64} {R : Nat → Value} {Q : Nat → Nat → Option Nat}
variable {K L i d : Nat} {xs : Nat → Int32} {V : VT} {a p f t : Nat} {o5 o6 o7 : Option Value}
theorem sc_i (hc : c 1000000000 = .inl (5, L, .inl xs)) (j : Nat) (hj : j < L) (hj2 : j < 2147483648) : mai (hp n s c I J A B R Q) 1000000000 0 5 (zn j) = true := by
  rw [haiB 1000000000 0 5 _ (by omega), hc]
  have h1 := zn_in j L hj2
  rw [decide_eq_true hj] at h1
  simp [eai, h1]
theorem sc_g (hc : c 1000000000 = .inl (5, L, .inl xs)) : mag (hp n s c I J A B R Q) 1000000000 = xs := by
  rw [hagB 1000000000 (by omega), hc]
  rfl
/-- the next call begins with the invariant -/
def NX (K L : Nat) (xs : Nat → Int32) (D i : Nat) (r : Option (Option (Option Value) × mq_H)) : Prop := ∃ V a p f t n s c I J A B R Q o5 o6 o7, GI (K + 1) L xs V a p f t n s c I J A B R Q ∧ r = mz D 305 1182 [some (.ref 1000000000), some (.ref 0), some (.ref 23), some (.ref 45), some (.int (zn i)), o5, o6, o7] [] (hp n s c I J A B R Q)
theorem K_why (h : GI K L xs V a p f t n s c I J A B R Q) (hK : K ≤ 600) (hi : i + 7 ≤ L) (hL : L ≤ 3584) : NX K L xs (d + 40) i (mz (d + 40) 305 345 [some (.ref 1000000000), some (.ref 0), some (.ref 23), some (.ref 45), some (.int (zn i)), o5, o6, o7] [] (hp n s c I J A B R Q)) := by
  have hw := h.2.2.2.2.2.1
  refine ⟨V, a, p, f, t, n, s, c, zu I 1150 0, J, A, B, R, Q, o5, o6, o7, GI_keep h hK (Nat.le_refl _) (by omega) (by omega) (fun _ _ => rfl) h.2.2.2.2.2.2.2 (fun k hk => zu_ne _ _ _ _ (by omega)) (fun _ _ => rfl) rfl rfl, ?_⟩
  simp (disch := first | omega | exact zb_1 | exact zb_0 | exact zb_n1 | exact zb_n0) only [x305_345, x305_345N, x305_346, x305_349, x305_349N, x305_350, x305_353, mq_dl_int, mq_dl_ref, mq_dl_null, mq_dl_none, mc_some, Option.toList_some, Option.toList_none, List.cons_append, List.nil_append, zb_1, zb_0, ↓reduceIte, if_true, if_false, not_true_eq_false, not_false_eq_true, Bool.false_eq_true, z_10, z_01, eq_self, Bool.and_self, true_or, or_true, false_or, or_false, true_and, and_true, false_and, and_false, and_self, or_self, ho_0, ho_23, C_why, R_why, hw]
theorem K_gives (h : GI K L xs V a p f t n s c I J A B R Q) (hK : K ≤ 600) (hi : i + 7 ≤ L) (hL : L ≤ 3584) : NX K L xs (d + 40) i (mz (d + 40) 305 358 [some (.ref 1000000000), some (.ref 0), some (.ref 23), some (.ref 45), some (.int (zn i)), o5, o6, o7] [] (hp n s c I J A B R Q)) := by
  obtain ⟨T, hV, ⟨hT, hW, han, _⟩, hRT⟩ := GI_now h
  have hR := h.2.2.2.1.1
  have hsc := h.2.1.2
  have e1 := C_gives (n := n) (s := s) (c := c) (I := I) (J := J) (A := A) (B := B) (R := R) (Q := Q) hT hW hR (d + 38) (xs (i + 1)) (xs (i + 2)) (xs (i + 3))
  have e2 := R_gives (n := n) (s := s) (c := c) (I := I) (J := J) (A := A) (B := B) (R := R) (Q := Q) hRT hW (d + 37) (xs (i + 1)) (xs (i + 2)) (xs (i + 3))
  refine ⟨V, a, p, f, t, n, s, c, zu I 1150 0, J, A, B, R, Q, o5, o6, o7, GI_keep h hK (Nat.le_refl _) (by omega) (by omega) (fun _ _ => rfl) h.2.2.2.2.2.2.2 (fun k hk => zu_ne _ _ _ _ (by omega)) (fun _ _ => rfl) rfl rfl, ?_⟩
  simp (disch := first | omega | exact zb_1 | exact zb_0 | exact zb_n1 | exact zb_n0) only [x305_358, x305_358N, x305_359, x305_359N, x305_360, x305_362, x305_363, x305_364, x305_365, x305_365N, x305_366, x305_368, x305_369, x305_370, x305_371, x305_371N, x305_372, x305_374, x305_375, x305_376, x305_377, x305_380, x305_380N, x305_381, x305_381N, x305_382, x305_384, x305_385, x305_386, x305_387, x305_387N, x305_388, x305_390, x305_391, x305_392, x305_393, x305_393N, x305_394, x305_396, x305_397, x305_398, x305_399, x305_402, mq_dl_int, mq_dl_ref, mq_dl_null, mq_dl_none, mc_some, Option.toList_some, Option.toList_none, List.cons_append, List.nil_append, zb_1, zb_0, ↓reduceIte, if_true, if_false, not_true_eq_false, not_false_eq_true, Bool.false_eq_true, z_10, z_01, eq_self, Bool.and_self, true_or, or_true, false_or, or_false, true_and, and_true, false_and, and_false, and_self, or_self, Nat.reduceLT, Nat.reduceEqDiff, Nat.reduceLeDiff, Nat.reduceAdd, Nat.reduceMul, Nat.reduceSub, zn_lit, zn_add, zn_mul, zn_sub, zn_addneg, zn_lt, zn_le, zn_eq, zn_clamp, zn_in, zn_long, ho_0, ho_23, sc_i hsc, sc_g hsc, e1, e2]
theorem K_thing (h : GI K L xs V a p f t n s c I J A B R Q) (hK : K ≤ 600) (hi : i + 7 ≤ L) (hL : L ≤ 3584) : NX K L xs (d + 40) i (mz (d + 40) 305 407 [some (.ref 1000000000), some (.ref 0), some (.ref 23), some (.ref 45), some (.int (zn i)), o5, o6, o7] [] (hp n s c I J A B R Q)) := by
  obtain ⟨T, hV, ⟨hT, hW, han, _⟩, hRT⟩ := GI_now h
  have hR := h.2.2.2.1.1
  have hsc := h.2.1.2
  have e1 := C_thing (n := n) (s := s) (c := c) (I := I) (J := J) (A := A) (B := B) (R := R) (Q := Q) hT hW hR (d + 38) (xs (i + 1)) (xs (i + 2))
  have e2 := R_thing (n := n) (s := s) (c := c) (I := I) (J := J) (A := A) (B := B) (R := R) (Q := Q) hRT hW (d + 36) (xs (i + 1)) (xs (i + 2))
  refine ⟨V, a, p, f, t, n, s, c, zu I 1150 0, J, A, B, R, Q, o5, o6, o7, GI_keep h hK (Nat.le_refl _) (by omega) (by omega) (fun _ _ => rfl) h.2.2.2.2.2.2.2 (fun k hk => zu_ne _ _ _ _ (by omega)) (fun _ _ => rfl) rfl rfl, ?_⟩
  simp (disch := first | omega | exact zb_1 | exact zb_0 | exact zb_n1 | exact zb_n0) only [x305_407, x305_407N, x305_408, x305_408N, x305_409, x305_411, x305_412, x305_413, x305_414, x305_414N, x305_415, x305_417, x305_418, x305_419, x305_420, x305_423, x305_423N, x305_424, x305_424N, x305_425, x305_427, x305_428, x305_429, x305_430, x305_430N, x305_431, x305_433, x305_434, x305_435, x305_436, x305_439, mq_dl_int, mq_dl_ref, mq_dl_null, mq_dl_none, mc_some, Option.toList_some, Option.toList_none, List.cons_append, List.nil_append, zb_1, zb_0, ↓reduceIte, if_true, if_false, not_true_eq_false, not_false_eq_true, Bool.false_eq_true, z_10, z_01, eq_self, Bool.and_self, true_or, or_true, false_or, or_false, true_and, and_true, false_and, and_false, and_self, or_self, Nat.reduceLT, Nat.reduceEqDiff, Nat.reduceLeDiff, Nat.reduceAdd, Nat.reduceMul, Nat.reduceSub, zn_lit, zn_add, zn_mul, zn_sub, zn_addneg, zn_lt, zn_le, zn_eq, zn_clamp, zn_in, zn_long, ho_0, ho_23, sc_i hsc, sc_g hsc, e1, e2]
theorem K_order (h : GI K L xs V a p f t n s c I J A B R Q) (hK : K ≤ 600) (hi : i + 7 ≤ L) (hL : L ≤ 3584) : NX K L xs (d + 40) i (mz (d + 40) 305 444 [some (.ref 1000000000), some (.ref 0), some (.ref 23), some (.ref 45), some (.int (zn i)), o5, o6, o7] [] (hp n s c I J A B R Q)) := by
  obtain ⟨T, hV, ⟨hT, hW, han, _⟩, hRT⟩ := GI_now h
  have hR := h.2.2.2.1.1
  have e1 := C_order (n := n) (s := s) (c := c) (I := I) (J := J) (A := A) (B := B) (R := R) (Q := Q) hT hW hR (d + 37)
  have e2 := R_order (n := n) (s := s) (c := c) (I := I) (J := J) (A := A) (B := B) (R := R) (Q := Q) hRT hW (d + 35)
  refine ⟨V, a, p, f, t, n, s, c, zu I 1150 0, J, A, B, R, Q, o5, o6, o7, GI_keep h hK (Nat.le_refl _) (by omega) (by omega) (fun _ _ => rfl) h.2.2.2.2.2.2.2 (fun k hk => zu_ne _ _ _ _ (by omega)) (fun _ _ => rfl) rfl rfl, ?_⟩
  simp (disch := first | omega | exact zb_1 | exact zb_0 | exact zb_n1 | exact zb_n0) only [x305_444, x305_444N, x305_445, x305_448, x305_448N, x305_449, x305_452, mq_dl_int, mq_dl_ref, mq_dl_null, mq_dl_none, mc_some, Option.toList_some, Option.toList_none, List.cons_append, List.nil_append, zb_1, zb_0, ↓reduceIte, if_true, if_false, not_true_eq_false, not_false_eq_true, Bool.false_eq_true, z_10, z_01, eq_self, Bool.and_self, true_or, or_true, false_or, or_false, true_and, and_true, false_and, and_false, and_self, or_self, ho_0, ho_23, e1, e2]
theorem K_kind (h : GI K L xs V a p f t n s c I J A B R Q) (hK : K ≤ 600) (hi : i + 7 ≤ L) (hL : L ≤ 3584) : NX K L xs (d + 40) i (mz (d + 40) 305 868 [some (.ref 1000000000), some (.ref 0), some (.ref 23), some (.ref 45), some (.int (zn i)), o5, o6, o7] [] (hp n s c I J A B R Q)) := by
  have hsc := h.2.1.2
  have e1 := C_kind (n := n) (s := s) (c := c) (I := I) (J := J) (A := A) (B := B) (R := R) (Q := Q) (d + 37) (xs (i + 1)) (xs (i + 2)) (xs (i + 3)) (xs (i + 4))
  have e2 := R_kind (n := n) (s := s) (c := c) (I := I) (J := J) (A := A) (B := B) (R := R) (Q := Q) (d + 37) (xs (i + 1)) (xs (i + 2)) (xs (i + 3)) (xs (i + 4))
  refine ⟨V, a, p, f, t, n, s, c, zu I 1150 0, J, A, B, R, Q, o5, o6, o7, GI_keep h hK (Nat.le_refl _) (by omega) (by omega) (fun _ _ => rfl) h.2.2.2.2.2.2.2 (fun k hk => zu_ne _ _ _ _ (by omega)) (fun _ _ => rfl) rfl rfl, ?_⟩
  simp (disch := first | omega | exact zb_1 | exact zb_0 | exact zb_n1 | exact zb_n0) only [x305_868, x305_868N, x305_869, x305_869N, x305_870, x305_872, x305_873, x305_874, x305_875, x305_875N, x305_876, x305_878, x305_879, x305_880, x305_881, x305_881N, x305_882, x305_884, x305_885, x305_886, x305_887, x305_887N, x305_888, x305_890, x305_891, x305_892, x305_893, x305_896, x305_896N, x305_897, x305_897N, x305_898, x305_900, x305_901, x305_902, x305_903, x305_903N, x305_904, x305_906, x305_907, x305_908, x305_909, x305_909N, x305_910, x305_912, x305_913, x305_914, x305_915, x305_915N, x305_916, x305_918, x305_919, x305_920, x305_921, x305_924, mq_dl_int, mq_dl_ref, mq_dl_null, mq_dl_none, mc_some, Option.toList_some, Option.toList_none, List.cons_append, List.nil_append, zb_1, zb_0, ↓reduceIte, if_true, if_false, not_true_eq_false, not_false_eq_true, Bool.false_eq_true, z_10, z_01, eq_self, Bool.and_self, true_or, or_true, false_or, or_false, true_and, and_true, false_and, and_false, and_self, or_self, Nat.reduceLT, Nat.reduceEqDiff, Nat.reduceLeDiff, Nat.reduceAdd, Nat.reduceMul, Nat.reduceSub, zn_lit, zn_add, zn_mul, zn_sub, zn_addneg, zn_lt, zn_le, zn_eq, zn_clamp, zn_in, zn_long, ho_0, ho_23, sc_i hsc, sc_g hsc, e1, e2]
theorem K_kinds (h : GI K L xs V a p f t n s c I J A B R Q) (hK : K ≤ 600) (hi : i + 7 ≤ L) (hL : L ≤ 3584) : NX K L xs (d + 40) i (mz (d + 40) 305 929 [some (.ref 1000000000), some (.ref 0), some (.ref 23), some (.ref 45), some (.int (zn i)), o5, o6, o7] [] (hp n s c I J A B R Q)) := by
  have hsc := h.2.1.2
  have e1 := C_kinds (n := n) (s := s) (c := c) (I := I) (J := J) (A := A) (B := B) (R := R) (Q := Q) (d + 36) (xs (i + 1)) (xs (i + 2))
  have e2 := R_kinds (n := n) (s := s) (c := c) (I := I) (J := J) (A := A) (B := B) (R := R) (Q := Q) (d + 36) (xs (i + 1)) (xs (i + 2))
  refine ⟨V, a, p, f, t, n, s, c, zu I 1150 0, J, A, B, R, Q, o5, o6, o7, GI_keep h hK (Nat.le_refl _) (by omega) (by omega) (fun _ _ => rfl) h.2.2.2.2.2.2.2 (fun k hk => zu_ne _ _ _ _ (by omega)) (fun _ _ => rfl) rfl rfl, ?_⟩
  simp (disch := first | omega | exact zb_1 | exact zb_0 | exact zb_n1 | exact zb_n0) only [x305_929, x305_929N, x305_930, x305_930N, x305_931, x305_933, x305_934, x305_935, x305_936, x305_936N, x305_937, x305_939, x305_940, x305_941, x305_942, x305_945, x305_945N, x305_946, x305_946N, x305_947, x305_949, x305_950, x305_951, x305_952, x305_952N, x305_953, x305_955, x305_956, x305_957, x305_958, x305_961, mq_dl_int, mq_dl_ref, mq_dl_null, mq_dl_none, mc_some, Option.toList_some, Option.toList_none, List.cons_append, List.nil_append, zb_1, zb_0, ↓reduceIte, if_true, if_false, not_true_eq_false, not_false_eq_true, Bool.false_eq_true, z_10, z_01, eq_self, Bool.and_self, true_or, or_true, false_or, or_false, true_and, and_true, false_and, and_false, and_self, or_self, Nat.reduceLT, Nat.reduceEqDiff, Nat.reduceLeDiff, Nat.reduceAdd, Nat.reduceMul, Nat.reduceSub, zn_lit, zn_add, zn_mul, zn_sub, zn_addneg, zn_lt, zn_le, zn_eq, zn_clamp, zn_in, zn_long, ho_0, ho_23, sc_i hsc, sc_g hsc, e1, e2]
theorem K_kept (h : GI K L xs V a p f t n s c I J A B R Q) (hK : K ≤ 600) (hi : i + 7 ≤ L) (hL : L ≤ 3584) : NX K L xs (d + 40) i (mz (d + 40) 305 966 [some (.ref 1000000000), some (.ref 0), some (.ref 23), some (.ref 45), some (.int (zn i)), o5, o6, o7] [] (hp n s c I J A B R Q)) := by
  have hsc := h.2.1.2
  have e1 := C_kept (n := n) (s := s) (c := c) (I := I) (J := J) (A := A) (B := B) (R := R) (Q := Q) (d + 36) (xs (i + 1)) (xs (i + 2))
  have e2 := R_kept (n := n) (s := s) (c := c) (I := I) (J := J) (A := A) (B := B) (R := R) (Q := Q) (d + 36) (xs (i + 1)) (xs (i + 2))
  refine ⟨V, a, p, f, t, n, s, c, zu I 1150 0, J, A, B, R, Q, o5, o6, o7, GI_keep h hK (Nat.le_refl _) (by omega) (by omega) (fun _ _ => rfl) h.2.2.2.2.2.2.2 (fun k hk => zu_ne _ _ _ _ (by omega)) (fun _ _ => rfl) rfl rfl, ?_⟩
  simp (disch := first | omega | exact zb_1 | exact zb_0 | exact zb_n1 | exact zb_n0) only [x305_966, x305_966N, x305_967, x305_967N, x305_968, x305_970, x305_971, x305_972, x305_973, x305_973N, x305_974, x305_976, x305_977, x305_978, x305_979, x305_982, x305_982N, x305_983, x305_983N, x305_984, x305_986, x305_987, x305_988, x305_989, x305_989N, x305_990, x305_992, x305_993, x305_994, x305_995, x305_998, mq_dl_int, mq_dl_ref, mq_dl_null, mq_dl_none, mc_some, Option.toList_some, Option.toList_none, List.cons_append, List.nil_append, zb_1, zb_0, ↓reduceIte, if_true, if_false, not_true_eq_false, not_false_eq_true, Bool.false_eq_true, z_10, z_01, eq_self, Bool.and_self, true_or, or_true, false_or, or_false, true_and, and_true, false_and, and_false, and_self, or_self, Nat.reduceLT, Nat.reduceEqDiff, Nat.reduceLeDiff, Nat.reduceAdd, Nat.reduceMul, Nat.reduceSub, zn_lit, zn_add, zn_mul, zn_sub, zn_addneg, zn_lt, zn_le, zn_eq, zn_clamp, zn_in, zn_long, ho_0, ho_23, sc_i hsc, sc_g hsc, e1, e2]
theorem K_count (h : GI K L xs V a p f t n s c I J A B R Q) (hK : K ≤ 600) (hi : i + 7 ≤ L) (hL : L ≤ 3584) : NX K L xs (d + 40) i (mz (d + 40) 305 1157 [some (.ref 1000000000), some (.ref 0), some (.ref 23), some (.ref 45), some (.int (zn i)), o5, o6, o7] [] (hp n s c I J A B R Q)) := by
  obtain ⟨T, hV, ⟨hT, hW, han, _⟩, hRT⟩ := GI_now h
  have hR := h.2.2.2.1.1
  have hsc := h.2.1.2
  obtain ⟨_, g2, g3, g4, g5⟩ := h.2.2.2.1
  have hpf := h.2.2.2.2.1.1.1
  have e1 := C_count (n := n) (s := s) (c := c) (I := I) (J := J) (A := A) (B := B) (R := R) (Q := Q) hT hR (d + 38) p f (xs (i + 1)) g2 g3
  have e2 := R_count (n := n) (s := s) (c := c) (I := I) (J := J) (A := A) (B := B) (R := R) (Q := Q) (d + 38) p (p + f + 1) (xs (i + 1)) (by omega) (by omega) g4 g5
  rw [hRT.1, show p + f + 1 - 1 - p = f by omega, h.2.2.1.2.2.1, ← h.2.2.1.2.1] at e2
  refine ⟨V, a, p, f, t, n, s, c, zu I 1150 0, J, A, B, R, Q, o5, o6, o7, GI_keep h hK (Nat.le_refl _) (by omega) (by omega) (fun _ _ => rfl) h.2.2.2.2.2.2.2 (fun k hk => zu_ne _ _ _ _ (by omega)) (fun _ _ => rfl) rfl rfl, ?_⟩
  simp (disch := first | omega | exact zb_1 | exact zb_0 | exact zb_n1 | exact zb_n0) only [x305_1157, x305_1157N, x305_1158, x305_1158N, x305_1159, x305_1161, x305_1162, x305_1163, x305_1164, x305_1167, x305_1167N, x305_1168, x305_1168N, x305_1169, x305_1171, x305_1172, x305_1173, x305_1174, x305_1177, mq_dl_int, mq_dl_ref, mq_dl_null, mq_dl_none, mc_some, Option.toList_some, Option.toList_none, List.cons_append, List.nil_append, zb_1, zb_0, ↓reduceIte, if_true, if_false, not_true_eq_false, not_false_eq_true, Bool.false_eq_true, z_10, z_01, eq_self, Bool.and_self, true_or, or_true, false_or, or_false, true_and, and_true, false_and, and_false, and_self, or_self, Nat.reduceLT, Nat.reduceEqDiff, Nat.reduceLeDiff, Nat.reduceAdd, Nat.reduceMul, Nat.reduceSub, zn_lit, zn_add, zn_mul, zn_sub, zn_addneg, zn_lt, zn_le, zn_eq, zn_clamp, zn_in, zn_long, ho_0, ho_23, sc_i hsc, sc_g hsc, e1, e2]
end LAWC
