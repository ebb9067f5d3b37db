/-! THE START: heaps as they are, and the constructors -/
theorem rr_o (n s : Nat) (f : Nat → mq_E) (a ci k : Nat) : mo (n, s, f) a ci k = eo (f a) ci k := rfl
theorem rr_o0 (n s : Nat) (f : Nat → mq_E) (a ci : Nat) : mo0 (n, s, f) a ci = eo0 (f a) ci := rfl
theorem rr_fs (n s : Nat) (f : Nat → mq_E) (a : Nat) : mfs (n, s, f) a = efs (f a) := rfl
theorem rr_f (n s : Nat) (f : Nat → mq_E) (a k : Nat) : mf (n, s, f) a k = (efs (f a)).getD k .null := rfl
theorem rr_ai (n s : Nat) (f : Nat → mq_E) (a kd kd2 : Nat) (i : Int32) : mai (n, s, f) a kd kd2 i = eai (f a) kd kd2 i := rfl
theorem rr_ag (n s : Nat) (f : Nat → mq_E) (a : Nat) : mag (n, s, f) a = eag (f a) := rfl
theorem rr_an (n s : Nat) (f : Nat → mq_E) (a : Nat) : man (n, s, f) a = ean (f a) := rfl
theorem rr_al (n s : Nat) (f : Nat → mq_E) (a : Nat) (i : Int32) : mal (n, s, f) a i = eal (f a) i := rfl
theorem rr_lg (n s : Nat) (f : Nat → mq_E) (a : Nat) : mlg (n, s, f) a = elg (f a) := rfl
theorem rr_mk (n s : Nat) (f : Nat → mq_E) (w : Nat) (e : mq_E) : mq_mk (n, s, f) w e = (n + 1, s + w, mq_up f n e) := rfl
theorem rr_wr (n s : Nat) (f : Nat → mq_E) (a : Nat) (e : mq_E) : mq_wr (n, s, f) a e = (n, s, mq_up f a e) := rfl
theorem rr_1 (n s : Nat) (f : Nat → mq_E) : ((n, s, f) : mq_H).1 = n := rfl
theorem vk_0_0 (x : Nat) : mq_okv (mp_ft 0 0) (.ref x) = true := okv_A _ _ _ _ rfl
theorem vk_0_1 (x : Nat) : mq_okv (mp_ft 0 1) (.ref x) = true := okv_A _ _ _ _ rfl
theorem vk_0_2 (x : Nat) : mq_okv (mp_ft 0 2) (.ref x) = true := okv_A _ _ _ _ rfl
theorem vk_0_3 (x : Int32) : mq_okv (mp_ft 0 3) (.int x) = true := okv_I _ _ _ rfl
theorem vk_0_4 (x : Nat) : mq_okv (mp_ft 0 4) (.ref x) = true := okv_T _ _ _ _ rfl
theorem vk_0_4N : mq_okv (mp_ft 0 4) .null = true := okv_TN _ _ _ rfl
theorem vk_1_0 (x : Nat) : mq_okv (mp_ft 1 0) (.ref x) = true := okv_A _ _ _ _ rfl
theorem vk_1_1 (x : Nat) : mq_okv (mp_ft 1 1) (.ref x) = true := okv_A _ _ _ _ rfl
theorem vk_1_2 (x : Nat) : mq_okv (mp_ft 1 2) (.ref x) = true := okv_A _ _ _ _ rfl
theorem vk_1_3 (x : Int32) : mq_okv (mp_ft 1 3) (.int x) = true := okv_I _ _ _ rfl
theorem vk_3_0 (x : Nat) : mq_okv (mp_ft 3 0) (.ref x) = true := okv_A _ _ _ _ rfl
theorem vk_3_1 (x : Nat) : mq_okv (mp_ft 3 1) (.ref x) = true := okv_A _ _ _ _ rfl
theorem vk_3_2 (x : Int32) : mq_okv (mp_ft 3 2) (.int x) = true := okv_I _ _ _ rfl
theorem vk_3_3 (x : Int32) : mq_okv (mp_ft 3 3) (.int x) = true := okv_I _ _ _ rfl
theorem vk_3_4 (x : Nat) : mq_okv (mp_ft 3 4) (.ref x) = true := okv_T _ _ _ _ rfl
theorem vk_3_4N : mq_okv (mp_ft 3 4) .null = true := okv_TN _ _ _ rfl
theorem vk_5_0 (x : Nat) : mq_okv (mp_ft 5 0) (.ref x) = true := okv_T _ _ _ _ rfl
theorem vk_5_0N : mq_okv (mp_ft 5 0) .null = true := okv_TN _ _ _ rfl
theorem vk_5_1 (x : Nat) : mq_okv (mp_ft 5 1) (.ref x) = true := okv_T _ _ _ _ rfl
theorem vk_5_1N : mq_okv (mp_ft 5 1) .null = true := okv_TN _ _ _ rfl
theorem vk_5_2 (x : Nat) : mq_okv (mp_ft 5 2) (.ref x) = true := okv_T _ _ _ _ rfl
theorem vk_5_2N : mq_okv (mp_ft 5 2) .null = true := okv_TN _ _ _ rfl
theorem vk_5_3 (x : Int32) : mq_okv (mp_ft 5 3) (.int x) = true := okv_I _ _ _ rfl
theorem vk_6_0 (x : Int32) : mq_okv (mp_ft 6 0) (.int x) = true := okv_I _ _ _ rfl
theorem vk_6_1 (x : Nat) : mq_okv (mp_ft 6 1) (.ref x) = true := okv_A _ _ _ _ rfl
theorem vk_6_2 (x : Nat) : mq_okv (mp_ft 6 2) (.ref x) = true := okv_A _ _ _ _ rfl
theorem vk_6_3 (x : Int32) : mq_okv (mp_ft 6 3) (.int x) = true := okv_I _ _ _ rfl
theorem vk_6_4 (x : Int32) : mq_okv (mp_ft 6 4) (.int x) = true := okv_I _ _ _ rfl
theorem vk_6_5 (x : Int32) : mq_okv (mp_ft 6 5) (.int x) = true := okv_I _ _ _ rfl
theorem vk_6_6 (x : Int32) : mq_okv (mp_ft 6 6) (.int x) = true := okv_I _ _ _ rfl
theorem vk_6_7 (x : Nat) : mq_okv (mp_ft 6 7) (.ref x) = true := okv_T _ _ _ _ rfl
theorem vk_6_7N : mq_okv (mp_ft 6 7) .null = true := okv_TN _ _ _ rfl
theorem vk_6_8 (x : Nat) : mq_okv (mp_ft 6 8) (.ref x) = true := okv_T _ _ _ _ rfl
theorem vk_6_8N : mq_okv (mp_ft 6 8) .null = true := okv_TN _ _ _ rfl
theorem vk_7_0 (x : Nat) : mq_okv (mp_ft 7 0) (.ref x) = true := okv_T _ _ _ _ rfl
theorem vk_7_0N : mq_okv (mp_ft 7 0) .null = true := okv_TN _ _ _ rfl
theorem vk_7_1 (x : Nat) : mq_okv (mp_ft 7 1) (.ref x) = true := okv_A _ _ _ _ rfl
theorem vk_7_2 (x : Int32) : mq_okv (mp_ft 7 2) (.int x) = true := okv_I _ _ _ rfl
theorem vk_7_3 (x : Int32) : mq_okv (mp_ft 7 3) (.int x) = true := okv_I _ _ _ rfl
theorem vk_8_0 (x : Nat) : mq_okv (mp_ft 8 0) (.ref x) = true := okv_A _ _ _ _ rfl
theorem vk_8_1 (x : Int32) : mq_okv (mp_ft 8 1) (.int x) = true := okv_I _ _ _ rfl
theorem vk_8_2 (x : Int32) : mq_okv (mp_ft 8 2) (.int x) = true := okv_I _ _ _ rfl
theorem vk_8_3 (x : Int32) : mq_okv (mp_ft 8 3) (.int x) = true := okv_I _ _ _ rfl
theorem vk_8_4 (x : Int32) : mq_okv (mp_ft 8 4) (.int x) = true := okv_I _ _ _ rfl
theorem vk_8_5 (x : Int32) : mq_okv (mp_ft 8 5) (.int x) = true := okv_I _ _ _ rfl
theorem vk_9_0 (x : Nat) : mq_okv (mp_ft 9 0) (.ref x) = true := okv_T _ _ _ _ rfl
theorem vk_9_0N : mq_okv (mp_ft 9 0) .null = true := okv_TN _ _ _ rfl
theorem vk_9_1 (x : Nat) : mq_okv (mp_ft 9 1) (.ref x) = true := okv_T _ _ _ _ rfl
theorem vk_9_1N : mq_okv (mp_ft 9 1) .null = true := okv_TN _ _ _ rfl
theorem vk_9_2 (x : Nat) : mq_okv (mp_ft 9 2) (.ref x) = true := okv_T _ _ _ _ rfl
theorem vk_9_2N : mq_okv (mp_ft 9 2) .null = true := okv_TN _ _ _ rfl
theorem vk_9_3 (x : Nat) : mq_okv (mp_ft 9 3) (.ref x) = true := okv_A _ _ _ _ rfl
theorem vk_9_4 (x : Nat) : mq_okv (mp_ft 9 4) (.ref x) = true := okv_A _ _ _ _ rfl
theorem vk_9_5 (x : Nat) : mq_okv (mp_ft 9 5) (.ref x) = true := okv_T _ _ _ _ rfl
theorem vk_9_5N : mq_okv (mp_ft 9 5) .null = true := okv_TN _ _ _ rfl
theorem vk_9_6 (x : Nat) : mq_okv (mp_ft 9 6) (.ref x) = true := okv_A _ _ _ _ rfl
theorem vk_9_7 (x : Int32) : mq_okv (mp_ft 9 7) (.int x) = true := okv_I _ _ _ rfl
theorem vk_10_0 (x : Int32) : mq_okv (mp_ft 10 0) (.int x) = true := okv_I _ _ _ rfl
theorem vk_10_1 (x : Nat) : mq_okv (mp_ft 10 1) (.ref x) = true := okv_A _ _ _ _ rfl
theorem vk_10_2 (x : Int32) : mq_okv (mp_ft 10 2) (.int x) = true := okv_I _ _ _ rfl
theorem vk_10_3 (x : Int32) : mq_okv (mp_ft 10 3) (.int x) = true := okv_I _ _ _ rfl
theorem vk_10_4 (x : Nat) : mq_okv (mp_ft 10 4) (.ref x) = true := okv_A _ _ _ _ rfl
theorem vk_10_5 (x : Nat) : mq_okv (mp_ft 10 5) (.ref x) = true := okv_A _ _ _ _ rfl
theorem vk_10_6 (x : Nat) : mq_okv (mp_ft 10 6) (.ref x) = true := okv_A _ _ _ _ rfl
theorem vk_10_7 (x : Int32) : mq_okv (mp_ft 10 7) (.int x) = true := okv_I _ _ _ rfl
theorem vk_10_8 (x : Int32) : mq_okv (mp_ft 10 8) (.int x) = true := okv_I _ _ _ rfl
theorem vk_10_9 (x : Nat) : mq_okv (mp_ft 10 9) (.ref x) = true := okv_A _ _ _ _ rfl
theorem vk_10_10 (x : Nat) : mq_okv (mp_ft 10 10) (.ref x) = true := okv_A _ _ _ _ rfl
theorem vk_10_11 (x : Int32) : mq_okv (mp_ft 10 11) (.int x) = true := okv_I _ _ _ rfl
theorem vk_10_12 (x : Int32) : mq_okv (mp_ft 10 12) (.int x) = true := okv_I _ _ _ rfl
theorem vk_10_13 (x : Nat) : mq_okv (mp_ft 10 13) (.ref x) = true := okv_A _ _ _ _ rfl
theorem vk_10_14 (x : Nat) : mq_okv (mp_ft 10 14) (.ref x) = true := okv_A _ _ _ _ rfl
theorem vk_10_15 (x : Nat) : mq_okv (mp_ft 10 15) (.ref x) = true := okv_A _ _ _ _ rfl
theorem vk_10_16 (x : Int32) : mq_okv (mp_ft 10 16) (.int x) = true := okv_I _ _ _ rfl
theorem vk_10_17 (x : Nat) : mq_okv (mp_ft 10 17) (.ref x) = true := okv_A _ _ _ _ rfl
theorem vk_10_18 (x : Nat) : mq_okv (mp_ft 10 18) (.ref x) = true := okv_A _ _ _ _ rfl
theorem vk_10_19 (x : Int32) : mq_okv (mp_ft 10 19) (.int x) = true := okv_I _ _ _ rfl
theorem vk_10_20 (x : Nat) : mq_okv (mp_ft 10 20) (.ref x) = true := okv_A _ _ _ _ rfl
theorem vk_10_21 (x : Int32) : mq_okv (mp_ft 10 21) (.int x) = true := okv_I _ _ _ rfl
theorem vk_10_22 (x : Int32) : mq_okv (mp_ft 10 22) (.int x) = true := okv_I _ _ _ rfl
theorem vk_10_23 (x : Int32) : mq_okv (mp_ft 10 23) (.int x) = true := okv_I _ _ _ rfl
theorem vk_10_24 (x : Int32) : mq_okv (mp_ft 10 24) (.int x) = true := okv_I _ _ _ rfl
theorem vk_10_25 (x : Nat) : mq_okv (mp_ft 10 25) (.ref x) = true := okv_A _ _ _ _ rfl
theorem vk_10_26 (x : Nat) : mq_okv (mp_ft 10 26) (.ref x) = true := okv_A _ _ _ _ rfl
theorem vk_10_27 (x : Int32) : mq_okv (mp_ft 10 27) (.int x) = true := okv_I _ _ _ rfl
theorem vk_10_28 (x : Nat) : mq_okv (mp_ft 10 28) (.ref x) = true := okv_A _ _ _ _ rfl
theorem vk_10_29 (x : Nat) : mq_okv (mp_ft 10 29) (.ref x) = true := okv_A _ _ _ _ rfl
theorem vk_10_30 (x : Int64) : mq_okv (mp_ft 10 30) (.long x) = true := okv_J _ _ _ rfl
theorem vk_10_31 (x : Int64) : mq_okv (mp_ft 10 31) (.long x) = true := okv_J _ _ _ rfl
theorem vk_10_32 (x : Nat) : mq_okv (mp_ft 10 32) (.ref x) = true := okv_A _ _ _ _ rfl
theorem vk_10_33 (x : Nat) : mq_okv (mp_ft 10 33) (.ref x) = true := okv_A _ _ _ _ rfl
theorem vk_10_34 (x : Int32) : mq_okv (mp_ft 10 34) (.int x) = true := okv_I _ _ _ rfl
theorem vk_10_35 (x : Int32) : mq_okv (mp_ft 10 35) (.int x) = true := okv_I _ _ _ rfl
theorem vk_10_36 (x : Int32) : mq_okv (mp_ft 10 36) (.int x) = true := okv_I _ _ _ rfl
theorem vk_10_37 (x : Nat) : mq_okv (mp_ft 10 37) (.ref x) = true := okv_A _ _ _ _ rfl
theorem vk_10_38 (x : Nat) : mq_okv (mp_ft 10 38) (.ref x) = true := okv_A _ _ _ _ rfl
theorem vk_10_39 (x : Nat) : mq_okv (mp_ft 10 39) (.ref x) = true := okv_A _ _ _ _ rfl
theorem vd_0 : mp_df 0 = [.null, .null, .null, .int 0, .null] := rfl
theorem vd_1 : mp_df 1 = [.null, .null, .null, .int 0] := rfl
theorem vd_3 : mp_df 3 = [.null, .null, .int 0, .int 0, .null] := rfl
theorem vd_5 : mp_df 5 = [.null, .null, .null, .int 0] := rfl
theorem vd_6 : mp_df 6 = [.int 0, .null, .null, .int 0, .int 0, .int 0, .int 0, .null, .null] := rfl
theorem vd_7 : mp_df 7 = [.null, .null, .int 0, .int 0] := rfl
theorem vd_8 : mp_df 8 = [.null, .int 0, .int 0, .int 0, .int 0, .int 0] := rfl
theorem vd_9 : mp_df 9 = [.null, .null, .null, .null, .null, .null, .null, .int 0] := rfl
theorem vd_10 : mp_df 10 = [.int 0, .null, .int 0, .int 0, .null, .null, .null, .int 0, .int 0, .null, .null, .int 0, .int 0, .null, .null, .null, .int 0, .null, .null, .int 0, .null, .int 0, .int 0, .int 0, .int 0, .null, .null, .int 0, .null, .null, .long 0, .long 0, .null, .null, .int 0, .int 0, .int 0, .null, .null, .null] := rfl
section CON
variable {d n s a b : Nat} {f : Nat → mq_E}
theorem N_tok (hf : f a = .inr (8, mp_df 8)) (ha : a < n) : ∃ F : Nat → mq_E, F a = .inr (8, [.ref n, .int (zn 0), .int (zn 4), .int (zn 0), .int (zn 0), .int (zn 0)]) ∧ F n = .inl (2, 1000, .inl (fun _ => zn 0)) ∧ (∀ b, b ≠ a → b < n ∨ n + 1 ≤ b → F b = f b) ∧ mz (d + 1) 123 0 [some (.ref a)] [] (n, s, f) = some (some none, (n + 1, s + 1000, F)) := by
  refine ⟨?F, ?h1, ?h2, ?h3, ?h4⟩
  case h4 =>
    simp (disch := first | omega | exact zb_1 | exact zb_0 | exact zb_n1 | exact zb_n0) only [x123_0, x123_0N, x123_1, x123_4, x123_4N, x123_5, x123_8, x123_10, x123_13, x123_13N, x123_14, x123_15, x123_18, x123_18N, x123_19, x123_20, x123_23, x123_23N, x123_24, x123_25, x123_28, x123_28N, x123_29, x123_30, x123_33, x123_33N, x123_34, x123_35, x123_38, x306_0, mq_dl_int, mq_dl_ref, mq_dl_null, mq_dl_none, mc_some, Option.toList_some, Option.toList_none, List.cons_append, List.nil_append, zb_1, zb_0, ↓reduceIte, if_true, if_false, not_true_eq_false, not_false_eq_true, Bool.false_eq_true, z_10, z_01, eq_self, Bool.and_self, true_or, or_true, false_or, or_false, true_and, and_true, false_and, and_false, and_self, or_self, Nat.reduceLT, Nat.reduceEqDiff, Nat.reduceLeDiff, Nat.reduceAdd, Nat.reduceMul, Nat.reduceSub, zn_lit, zn_add, zn_mul, zn_sub, zn_addneg, zn_lt, zn_le, zn_eq, zn_clamp, zn_in, zn_long, rr_o, rr_o0, rr_fs, rr_f, rr_ai, rr_ag, rr_an, rr_al, rr_lg, rr_mk, rr_wr, rr_1, eo_i, eo0_i, efs_i, eai_i, eag_i, ean_i, eal_i, elg_i, ean_l, up_eq, up_ne, up_up, up_m1, up_m2, up_m3, List.set_cons_zero, List.set_cons_succ, List.getD_cons_zero, List.getD_cons_succ, List.length_cons, List.length_nil, decide_true, Bool.true_and, Bool.and_true, Bool.true_or, upd_zu, updL_zu, zu_eq, hf, vd_8, vk_8_0, vk_8_1, vk_8_2, vk_8_3, vk_8_4, vk_8_5, Nat.not_lt_zero]
    rfl
  case h1 => simp (disch := first | omega | exact zb_1 | exact zb_0 | exact zb_n1 | exact zb_n0) only [up_eq, up_ne]
  case h2 => simp (disch := first | omega | exact zb_1 | exact zb_0 | exact zb_n1 | exact zb_n0) only [up_eq, up_ne]
  case h3 =>
    intro b h1 h2
    simp (disch := first | omega | exact zb_1 | exact zb_0 | exact zb_n1 | exact zb_n0) only [up_ne]
theorem N_trd (hf : f a = .inr (7, mp_df 7)) (ha : a < n) : ∃ F : Nat → mq_E, F a = .inr (7, [.ref b, .ref n, .int (zn 0), .int (zn 0)]) ∧ F n = .inl (1, 36, .inl (fun _ => zn 0)) ∧ (∀ b, b ≠ a → b < n ∨ n + 1 ≤ b → F b = f b) ∧ mz (d + 1) 115 0 [some (.ref a), some (.ref b)] [] (n, s, f) = some (some none, (n + 1, s + 36, F)) := by
  refine ⟨?F, ?h1, ?h2, ?h3, ?h4⟩
  case h4 =>
    simp (disch := first | omega | exact zb_1 | exact zb_0 | exact zb_n1 | exact zb_n0) only [x115_0, x115_0N, x115_1, x115_4, x115_4N, x115_5, x115_7, x115_9, x115_12, x115_12N, x115_13, x115_14, x115_17, x115_17N, x115_18, x115_19, x115_22, x115_22N, x115_23, x115_23N, x115_24, x115_27, x306_0, mq_dl_int, mq_dl_ref, mq_dl_null, mq_dl_none, mc_some, Option.toList_some, Option.toList_none, List.cons_append, List.nil_append, zb_1, zb_0, ↓reduceIte, if_true, if_false, not_true_eq_false, not_false_eq_true, Bool.false_eq_true, z_10, z_01, eq_self, Bool.and_self, true_or, or_true, false_or, or_false, true_and, and_true, false_and, and_false, and_self, or_self, Nat.reduceLT, Nat.reduceEqDiff, Nat.reduceLeDiff, Nat.reduceAdd, Nat.reduceMul, Nat.reduceSub, zn_lit, zn_add, zn_mul, zn_sub, zn_addneg, zn_lt, zn_le, zn_eq, zn_clamp, zn_in, zn_long, rr_o, rr_o0, rr_fs, rr_f, rr_ai, rr_ag, rr_an, rr_al, rr_lg, rr_mk, rr_wr, rr_1, eo_i, eo0_i, efs_i, eai_i, eag_i, ean_i, eal_i, elg_i, ean_l, up_eq, up_ne, up_up, up_m1, up_m2, up_m3, List.set_cons_zero, List.set_cons_succ, List.getD_cons_zero, List.getD_cons_succ, List.length_cons, List.length_nil, decide_true, Bool.true_and, Bool.and_true, Bool.true_or, upd_zu, updL_zu, zu_eq, hf, vd_7, vk_7_0, vk_7_0N, vk_7_1, vk_7_2, vk_7_3, Nat.not_lt_zero]
    rfl
  case h1 => simp (disch := first | omega | exact zb_1 | exact zb_0 | exact zb_n1 | exact zb_n0) only [up_eq, up_ne]
  case h2 => simp (disch := first | omega | exact zb_1 | exact zb_0 | exact zb_n1 | exact zb_n0) only [up_eq, up_ne]
  case h3 =>
    intro b h1 h2
    simp (disch := first | omega | exact zb_1 | exact zb_0 | exact zb_n1 | exact zb_n0) only [up_ne]
theorem N_frm (hf : f a = .inr (1, mp_df 1)) (ha : a < n) : ∃ F : Nat → mq_E, F a = .inr (1, [.ref n, .ref (n + 1), .ref (n + 2), .int (zn 0)]) ∧ F n = .inl (0, 1000, .inl (fun _ => zn 0)) ∧ F (n + 1) = .inl (0, 1000, .inl (fun _ => zn 0)) ∧ F (n + 2) = .inl (0, 64, .inl (fun _ => zn 0)) ∧ (∀ b, b ≠ a → b < n ∨ n + 3 ≤ b → F b = f b) ∧ mz (d + 1) 14 0 [some (.ref a)] [] (n, s, f) = some (some none, (n + 3, s + 2064, F)) := by
  refine ⟨?F, ?h1, ?h2, ?h5, ?h6, ?h3, ?h4⟩
  case h4 =>
    simp (disch := first | omega | exact zb_1 | exact zb_0 | exact zb_n1 | exact zb_n0) only [x14_0, x14_0N, x14_1, x14_4, x14_4N, x14_5, x14_8, x14_10, x14_13, x14_13N, x14_14, x14_17, x14_19, x14_22, x14_22N, x14_23, x14_25, x14_27, x14_30, x14_30N, x14_31, x14_32, x14_35, x306_0, mq_dl_int, mq_dl_ref, mq_dl_null, mq_dl_none, mc_some, Option.toList_some, Option.toList_none, List.cons_append, List.nil_append, zb_1, zb_0, ↓reduceIte, if_true, if_false, not_true_eq_false, not_false_eq_true, Bool.false_eq_true, z_10, z_01, eq_self, Bool.and_self, true_or, or_true, false_or, or_false, true_and, and_true, false_and, and_false, and_self, or_self, Nat.reduceLT, Nat.reduceEqDiff, Nat.reduceLeDiff, Nat.reduceAdd, Nat.reduceMul, Nat.reduceSub, zn_lit, zn_add, zn_mul, zn_sub, zn_addneg, zn_lt, zn_le, zn_eq, zn_clamp, zn_in, zn_long, rr_o, rr_o0, rr_fs, rr_f, rr_ai, rr_ag, rr_an, rr_al, rr_lg, rr_mk, rr_wr, rr_1, eo_i, eo0_i, efs_i, eai_i, eag_i, ean_i, eal_i, elg_i, ean_l, up_eq, up_ne, up_up, up_m1, up_m2, up_m3, List.set_cons_zero, List.set_cons_succ, List.getD_cons_zero, List.getD_cons_succ, List.length_cons, List.length_nil, decide_true, Bool.true_and, Bool.and_true, Bool.true_or, upd_zu, updL_zu, zu_eq, hf, vd_1, vk_1_0, vk_1_1, vk_1_2, vk_1_3, Nat.not_lt_zero, Nat.add_assoc]
    rfl
  case h1 => simp (disch := first | omega | exact zb_1 | exact zb_0 | exact zb_n1 | exact zb_n0) only [up_eq, up_ne]
  case h2 => simp (disch := first | omega | exact zb_1 | exact zb_0 | exact zb_n1 | exact zb_n0) only [up_eq, up_ne]
  case h5 => simp (disch := first | omega | exact zb_1 | exact zb_0 | exact zb_n1 | exact zb_n0) only [up_eq, up_ne]
  case h6 => simp (disch := first | omega | exact zb_1 | exact zb_0 | exact zb_n1 | exact zb_n0) only [up_eq, up_ne]
  case h3 =>
    intro b h1 h2
    simp (disch := first | omega | exact zb_1 | exact zb_0 | exact zb_n1 | exact zb_n0) only [up_ne]
theorem N_col (hf : f a = .inr (0, mp_df 0)) (ha : a < n) : ∃ F : Nat → mq_E, F a = .inr (0, [.ref n, .ref (n + 1), .ref (n + 2), .int (zn 0), .null]) ∧ F n = .inl (0, 144, .inl (fun _ => zn 0)) ∧ F (n + 1) = .inl (0, 6, .inl (fun _ => zn 0)) ∧ F (n + 2) = .inl (0, 36, .inl (fun _ => zn 0)) ∧ (∀ b, b ≠ a → b < n ∨ n + 3 ≤ b → F b = f b) ∧ mz (d + 1) 0 0 [some (.ref a)] [] (n, s, f) = some (some none, (n + 3, s + 186, F)) := by
  refine ⟨?F, ?h1, ?h2, ?h5, ?h6, ?h3, ?h4⟩
  case h4 =>
    simp (disch := first | omega | exact zb_1 | exact zb_0 | exact zb_n1 | exact zb_n0) only [x0_0, x0_0N, x0_1, x0_4, x0_4N, x0_5, x0_8, x0_10, x0_13, x0_13N, x0_14, x0_16, x0_18, x0_21, x0_21N, x0_22, x0_24, x0_26, x0_29, x0_29N, x0_30, x0_31, x0_34, x0_34N, x0_35, x0_36, x0_39, x306_0, mq_dl_int, mq_dl_ref, mq_dl_null, mq_dl_none, mc_some, Option.toList_some, Option.toList_none, List.cons_append, List.nil_append, zb_1, zb_0, ↓reduceIte, if_true, if_false, not_true_eq_false, not_false_eq_true, Bool.false_eq_true, z_10, z_01, eq_self, Bool.and_self, true_or, or_true, false_or, or_false, true_and, and_true, false_and, and_false, and_self, or_self, Nat.reduceLT, Nat.reduceEqDiff, Nat.reduceLeDiff, Nat.reduceAdd, Nat.reduceMul, Nat.reduceSub, zn_lit, zn_add, zn_mul, zn_sub, zn_addneg, zn_lt, zn_le, zn_eq, zn_clamp, zn_in, zn_long, rr_o, rr_o0, rr_fs, rr_f, rr_ai, rr_ag, rr_an, rr_al, rr_lg, rr_mk, rr_wr, rr_1, eo_i, eo0_i, efs_i, eai_i, eag_i, ean_i, eal_i, elg_i, ean_l, up_eq, up_ne, up_up, up_m1, up_m2, up_m3, List.set_cons_zero, List.set_cons_succ, List.getD_cons_zero, List.getD_cons_succ, List.length_cons, List.length_nil, decide_true, Bool.true_and, Bool.and_true, Bool.true_or, upd_zu, updL_zu, zu_eq, hf, vd_0, vk_0_0, vk_0_1, vk_0_2, vk_0_3, vk_0_4, vk_0_4N, Nat.not_lt_zero, Nat.add_assoc]
    rfl
  case h1 => simp (disch := first | omega | exact zb_1 | exact zb_0 | exact zb_n1 | exact zb_n0) only [up_eq, up_ne]
  case h2 => simp (disch := first | omega | exact zb_1 | exact zb_0 | exact zb_n1 | exact zb_n0) only [up_eq, up_ne]
  case h5 => simp (disch := first | omega | exact zb_1 | exact zb_0 | exact zb_n1 | exact zb_n0) only [up_eq, up_ne]
  case h6 => simp (disch := first | omega | exact zb_1 | exact zb_0 | exact zb_n1 | exact zb_n0) only [up_eq, up_ne]
  case h3 =>
    intro b h1 h2
    simp (disch := first | omega | exact zb_1 | exact zb_0 | exact zb_n1 | exact zb_n0) only [up_ne]
end CON
