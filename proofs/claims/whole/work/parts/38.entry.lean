/-! FROM THE LAW'S ENTRY: a run of the model from its first frame gives the claim -/
theorem mz_strings {args : Array Value} {s : State} {B : Nat} (hgv : (Jvm.Cond.and given_1 narrow_1).before args s = true) (hB : B = s.heap.size) : ∃ adK adV : Nat → Nat, ∀ i : Nat, i < 16 → (mz_tm i).eval args s none [] s = some (.ref (adK i)) ∧ va_O "java/lang/String" (adK i) (fun q => B ≤ q) s s.heap ∧ va_OF "java/lang/String" "coder" "B" (.int 0) (adK i) (fun q => B ≤ q) s s.heap ∧ va_OF "java/lang/String" "value" "[B" (.ref (adV i)) (adK i) (fun q => B ≤ q) s s.heap ∧ va_T .byte (adV i) (mz_len.getD i 0) (fun j => .int ((mz_byt.getD i []).getD j 0)) (fun q => B ≤ q) s s.heap := by
  have hnn : ∀ c ∈ mz_nn, c.before args s = true := flat_of_before _ hgv
  have hA : ∀ a : Nat, a < s.heap.size → ¬ (fun q => B ≤ q) a := fun a ha q => by have : B ≤ a := q; omega
  have h0 : ∀ i : Nat, ∃ q : Nat × Nat, i < 16 → (mz_tm i).eval args s none [] s = some (.ref q.1) ∧ va_O "java/lang/String" q.1 (fun q => B ≤ q) s s.heap ∧ va_OF "java/lang/String" "coder" "B" (.int 0) q.1 (fun q => B ≤ q) s s.heap ∧ va_OF "java/lang/String" "value" "[B" (.ref q.2) q.1 (fun q => B ≤ q) s s.heap ∧ va_T .byte q.2 (mz_len.getD i 0) (fun j => .int ((mz_byt.getD i []).getD j 0)) (fun q => B ≤ q) s s.heap := by
    intro i
    by_cases hi : i < 16
    · obtain ⟨a, c, cA, kA, q1, q2, q3, q4, q5, q6, -⟩ := Cond.exactly_spec (args := args) (first := s) (o := none) (s := s) (idx := []) (t := mz_tm i) (cls := "java/lang/String") (hnn _ (mz_w2 i hi))
      obtain ⟨t, ht, hT⟩ := va_Tof (f := fun j => .int ((mz_byt.getD i []).getD j 0)) (A := fun q => B ≤ q) (mz_w1 i hi) (hnn _ (mz_w4 i hi)) (va_eqt (hnn _ (mz_w5 i hi))) (fun j hj => va_eqt (hnn _ (mz_w6 i hi j hj))) hA
      exact ⟨(a, t), fun _ => ⟨q1, ⟨cA, q3, q5, by rw [q6]; exact q2, hA a (Array.getElem?_eq_some_iff.mp q3).1⟩, vk_OFof q1 (va_eqt (hnn _ (mz_w3 i hi))) hA, vk_OFof q1 ht hA, hT⟩⟩
    · exact ⟨(0, 0), fun h => absurd h hi⟩
  obtain ⟨ad, had⟩ := Classical.axiomOfChoice h0
  exact ⟨fun i => (ad i).1, fun i => (ad i).2, had⟩
theorem mz_arr {args : Array Value} {s : State} {ty : FieldType} (hno : ∀ C, ty ≠ .object C) (h : (Cond.arrayClass ty).before args s = true) : ∃ c : ClassId, ArrOfT s c ty ∧ va_RA s c ty := by
  obtain ⟨c, k, comp, h1, h2, h3⟩ := Cond.arrayClass_spec h
  refine ⟨c, fun n z => ⟨fun k h => (by cases h), k, h2, comp, h3⟩, ?_⟩
  cases ty with
  | object C => exact absurd rfl (hno C)
  | _ => exact h1
theorem mz_arrq {args : Array Value} {s : State} {C : String} (h : (Cond.arrayOver (.object C)).before args s = true) : ∃ c : ClassId, ArrOfT s c (.object C) ∧ va_RA s c (.object C) := by
  obtain ⟨comp, c, k, h1, -, h2, h3, h4⟩ := Cond.arrayOver_spec h
  exact ⟨c, fun n z => ⟨fun k h => (by cases h), k, h2, comp, h3⟩, k, comp, h2, h3, h1, h4⟩
theorem mz_known {args : Array Value} {s : State} (hts : ∀ w ∈ lw_tbl, w.before args s = true) : ∃ (D : va_G) (cA : Nat → ClassId), va_K D mk_cl (mr_ty cA) s := by
  have hg : ∀ w ∈ mg_tbl, w.before args s = true := fun w hw => hts w (mg_lw hw)
  have h0 : ∀ ci : Nat, ∃ q : ClassId × (Nat → Nat), ci < 11 → u_Kn s (mk_nm.getD ci "") (mk_T ci) (mk_N ci) q.1 q.2 := by
    intro ci
    by_cases h : ci < 11
    · obtain ⟨c, iS, hk⟩ := u_known (C := mk_nm.getD ci "") (T := mk_T ci) (N := mk_N ci) (n := mk_N ci) hg (mk_uws h) (hg _ (mk_c h).1)
      exact ⟨(c, iS), fun _ => hk⟩
    · exact ⟨(0, fun _ => 0), fun q => absurd q h⟩
  obtain ⟨d, hd⟩ := Classical.axiomOfChoice h0
  obtain ⟨c0, k0⟩ := mz_arr (ty := .int) (fun _ h => by cases h) (hts _ (mg_lw (mg_of (o := some mw_ac0) (by decide +kernel))))
  obtain ⟨c1, k1⟩ := mz_arr (ty := .boolean) (fun _ h => by cases h) (hts _ (mg_lw (mg_of (o := some mw_ac1) (by decide +kernel))))
  obtain ⟨c2, k2⟩ := mz_arr (ty := .char) (fun _ h => by cases h) (hts _ (mg_lw (mg_of (o := some mw_ac2) (by decide +kernel))))
  obtain ⟨c3, k3⟩ := mz_arr (ty := .long) (fun _ h => by cases h) (hts _ (mg_lw (mg_of (o := some mw_ac3) (by decide +kernel))))
  obtain ⟨c4, k4⟩ := mz_arrq (C := "ShareTable$Table") (hts _ mz_over)
  refine ⟨(fun ci => (d ci).1, fun ci => (d ci).2), fun k => if k = 0 then c0 else if k = 1 then c1 else if k = 2 then c2 else if k = 3 then c3 else c4, fun ci q hq => ?_, fun k q hq => ?_⟩
  · have hlt : ci < 11 := (List.getElem?_eq_some_iff.mp hq).1
    rw [mk_cl_at ci hlt] at hq
    cases hq
    exact hd ci hlt
  · have hlt : k < 5 := (List.getElem?_eq_some_iff.mp hq).1
    match k, hq with
    | 0, hq => cases hq; exact k0
    | 1, hq => cases hq; exact k1
    | 2, hq => cases hq; exact k2
    | 3, hq => cases hq; exact k3
    | 4, hq => cases hq; exact k4
    | k + 5, hq => exact absurd hlt (by omega)
set_option maxHeartbeats 4000000 in
/-- what holds at the law's start -/
theorem mz_start {s : State} {b L : Nat} {xs : Nat → Int32} (hts : ∀ w ∈ lw_tbl, w.before #[Value.ref b] s = true) (hX : va_X b L xs s s.heap) (hbl : b < s.heap.size) (hgv : (Jvm.Cond.and given_1 narrow_1).before #[Value.ref b] s = true) :
    ∃ (D : va_G) (cA : Nat → ClassId) (xa : Nat → Nat), ms_E D cA s.heap.size xa (mz_X L xs) s ∧ mt_E s.heap.size s ∧ xa 0 = b := by
  have hnn : ∀ c ∈ mz_nn, c.before #[Value.ref b] s = true := flat_of_before _ hgv
  obtain ⟨D, cA, hK⟩ := mz_known hts
  obtain ⟨adK, adV, had⟩ := mz_strings (B := s.heap.size) hgv rfl
  have hA : ∀ a : Nat, a < s.heap.size → ¬ (fun q => s.heap.size ≤ q) a := fun a ha q => by have : s.heap.size ≤ a := q; omega
  refine ⟨D, cA, mz_xa b adK adV, ⟨Nat.le_refl _, hK, fun j => ?_, va_AO.of (hts _ mz_over), fun mi idx a ha => ?_, va_Zof (hts _ mz_cs1) (hts _ mz_cs2) (va_eqt (hnn _ mz_cs3)) hA, fun mi idx mj hm => ?_, va_Zqof (hts _ mx_lays) (hts _ mx_ini) (hnn _ mx_ref) hA⟩, ⟨vx_Zqof (hts _ mz_us1) (hts _ mz_us2) (hnn _ mz_us3) hA, vx_Zqof (hts _ mz_us4) (hts _ mz_us2) (hnn _ mz_us5) hA, fun w hw hc => ?_, va_Nw.of rfl (hts _ mz_us6)⟩, rfl⟩
  · unfold mz_xa mz_X
    by_cases j0 : j = 0
    · subst j0
      refine ⟨hbl, ?_⟩
      rw [if_pos (by omega)]
      exact Or.inr (Or.inl ⟨rfl, hX⟩)
    · rw [if_neg (by omega : ¬ mr_X + j = mr_X)]
      by_cases j1 : 1 ≤ j ∧ j < 1 + 16
      · obtain ⟨a1, a2, a3, a4, a5⟩ := had (j - 1) (by omega)
        rw [if_pos j1, if_pos (by omega : mr_X < mr_X + j ∧ mr_X + j < mr_X + 1 + 16)]
        refine ⟨?_, rfl, mr_X + j + 99, rfl, a2, a3, ?_⟩
        · obtain ⟨cell, c1, -⟩ := a2
          exact (Array.getElem?_eq_some_iff.mp c1).1
        · have e1 : mr_v s.heap.size (fun j => if 1 ≤ j ∧ j < 1 + 16 then adK (j - 1) else if 100 ≤ j ∧ j < 100 + 16 then adV (j - 100) else b) (.ref (mr_X + j + 99)) = .ref (adV (j - 1)) := by
            show Value.ref (mr_a _ _ _) = _
            rw [show mr_X + j + 99 = mr_X + (j + 99) by omega, mr_a_hi]
            rw [if_neg (by omega), if_pos (by omega), show j + 99 - 100 = j - 1 by omega]
          rw [e1]
          exact a4
      · rw [if_neg j1, if_neg (by omega : ¬ (mr_X < mr_X + j ∧ mr_X + j < mr_X + 1 + 16))]
        by_cases j2 : 100 ≤ j ∧ j < 100 + 16
        · obtain ⟨a1, a2, a3, a4, a5⟩ := had (j - 100) (by omega)
          rw [if_pos j2, if_pos (by omega : mr_X + 100 ≤ mr_X + j ∧ mr_X + j < mr_X + 100 + 16), show mr_X + j - (mr_X + 100) = j - 100 by omega]
          refine ⟨?_, Or.inr (Or.inr ⟨rfl, a5⟩)⟩
          obtain ⟨cell, c1, -⟩ := a5
          exact (Array.getElem?_eq_some_iff.mp c1).1
        · rw [if_neg j2, if_neg (by omega : ¬ (mr_X + 100 ≤ mr_X + j ∧ mr_X + j < mr_X + 100 + 16))]
          exact ⟨hbl, Or.inl rfl⟩
  · have h0 := mz_okks_all _ (mk_oc_lt mi)
    unfold mz_okks at h0
    have h1 := List.all_eq_true.mp h0 _ (mq_fd_mem ha)
    simp only [Bool.and_eq_true, decide_eq_true_eq] at h1
    obtain ⟨⟨⟨g1, g2⟩, g3⟩, g4⟩ := h1
    obtain ⟨j, rfl⟩ : ∃ j, a = mr_X + (1 + j) := ⟨a - mr_X - 1, by omega⟩
    have e0 : mr_X + (1 + j) - mr_X - 1 = j := by omega
    rw [e0] at g3 g4
    obtain ⟨a1, -⟩ := had j (by omega)
    refine ⟨_, hts _ g4, ?_⟩
    rw [g3] at a1
    have e1 : mr_a s.heap.size (mz_xa b adK adV) (mr_X + (1 + j)) = adK j := by
      rw [mr_a_hi]
      unfold mz_xa
      rw [if_pos (by omega), Nat.add_sub_cancel_left]
    rw [e1, Term.string_eval_of_vm (args := #[Value.ref b]) (U := s) rfl]
    exact a1
  · have h1 := List.all_eq_true.mp (mz_nest _ (mk_oc_lt mi)) _ (mq_fd_mem hm)
    simp at h1
    exact va_Nw.of rfl (hts _ h1)
  · have h1 := List.all_eq_true.mp mt_split w hw
    simp only [Bool.or_eq_true, Bool.and_eq_true, decide_eq_true_eq] at h1
    have h2 : w ∈ lw_tbl := h1.elim (fun q => q.2) (fun q => q.2)
    exact va_Nw.of (mt_onT hc) (hts _ h2)
