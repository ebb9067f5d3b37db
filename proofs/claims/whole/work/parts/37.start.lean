/-! THE START: written by wip/gen/gen6.py (the texts' numbers) -/
def mz_tm (i : Nat) : Term := match i with
  | 0 => .string "ShareTable$Tokens" 40
  | 1 => .string "ShareTable$TableReader" 31
  | 2 => .string "ShareTable$TableReader" 64
  | 3 => .string "ShareTable$TableReader" 91
  | 4 => .string "ShareTable$TableReader" 100
  | 5 => .string "ShareTable$TableReader" 74
  | 6 => .string "ShareTable$SchemeReader" 41
  | 7 => .string "ShareTable$SchemeReader" 53
  | 8 => .string "ShareTable$SchemeReader" 121
  | 9 => .string "ShareTable$SchemeReader" 123
  | 10 => .string "ShareTable$SchemeReader" 125
  | 11 => .string "ShareTable$SchemeReader" 127
  | 12 => .string "ShareTable$SchemeReader" 129
  | 13 => .string "ShareTable$SchemeReader" 113
  | 14 => .string "ShareTable$SchemeReader" 84
  | 15 => .string "ShareTable$SchemeReader" 90
  | _ => .string "" 0
def mz_len : List Nat := [8, 6, 5, 5, 2, 7, 6, 6, 1, 1, 3, 4, 4, 3, 3, 2]
def mz_byt : List (List Int32) := [[40, 41, 60, 61, 43, 45, 42, 59], [116, 104, 105, 110, 103, 115], [116, 105, 109, 101, 115], [103, 105, 118, 101, 115], [111, 102], [114, 101, 118, 101, 114, 115, 101], [112, 111, 105, 110, 116, 115], [99, 111, 108, 111, 117, 114], [120], [121], [102, 97, 114], [114, 105, 110, 103], [115, 97, 109, 101], [110, 111, 116], [97, 110, 100], [111, 114]]
def mz_tx : List String := ["()<=+-*;", "things", "times", "gives", "of", "reverse", "points", "colour", "x", "y", "far", "ring", "same", "not", "and", "or"]
def mz_nn : List Cond := flatC (Jvm.Cond.and given_1 narrow_1)
theorem mz_w1 : ∀ i, i < 16 → mz_len.getD i 0 < 2 ^ 31 := by decide +kernel
theorem mz_w2 : ∀ i, i < 16 → Cond.exactly (mz_tm i) "java/lang/String" ∈ mz_nn := by decide +kernel
theorem mz_w3 : ∀ i, i < 16 → Cond.eq (.field (mz_tm i) "java/lang/String" "coder" "B") (.int 0) ∈ mz_nn := by decide +kernel
theorem mz_w4 : ∀ i, i < 16 → Cond.arrayOf (.field (mz_tm i) "java/lang/String" "value" "[B") .byte ∈ mz_nn := by decide +kernel
theorem mz_w5 : ∀ i, i < 16 → Cond.eq (.length (.field (mz_tm i) "java/lang/String" "value" "[B")) (.int (Int32.ofNat (mz_len.getD i 0))) ∈ mz_nn := by decide +kernel
theorem mz_w6 : ∀ i, i < 16 → ∀ j, j < mz_len.getD i 0 → Cond.eq (.elem (.field (mz_tm i) "java/lang/String" "value" "[B") (.int (Int32.ofNat j))) (.int ((mz_byt.getD i []).getD j 0)) ∈ mz_nn := by decide +kernel
/-- which text a constant is -/
def mz_okks (oc : Nat) : Bool := (mp_ksT.getD oc []).all fun q => decide (mr_X < q.2 ∧ q.2 < mr_X + 1 + 16) && decide (mz_tm (q.2 - mr_X - 1) = .string (mp_cn.getD oc "") q.1) && decide (Cond.stringRef (mp_cn.getD oc "") q.1 (mz_tx.getD (q.2 - mr_X - 1) "") ∈ lw_tbl)
theorem mz_okks_all : ∀ oc, oc < 19 → mz_okks oc = true := by decide +kernel
def mz_X (L : Nat) (xs : Nat → Int32) : Nat → mq_E := fun k => if k = mr_X then .inl (5, L, .inl xs) else if mr_X < k ∧ k < mr_X + 1 + 16 then .inr (11, [.ref (k + 99), .int 0]) else if mr_X + 100 ≤ k ∧ k < mr_X + 100 + 16 then .inl (6, mz_len.getD (k - (mr_X + 100)) 0, .inl (fun j => (mz_byt.getD (k - (mr_X + 100)) []).getD j 0)) else mq_dead
def mz_h0 (L : Nat) (xs : Nat → Int32) : mq_H := (0, 0, mz_X L xs)
def mz_xa (b : Nat) (adK adV : Nat → Nat) (j : Nat) : Nat := if 1 ≤ j ∧ j < 1 + 16 then adK (j - 1) else if 100 ≤ j ∧ j < 100 + 16 then adV (j - 100) else b
def mz_ns : Nat := 16
theorem mz_nest : ∀ oc, oc < 19 → (mp_lkT.getD oc []).all (fun q => decide (¬ q.2.2 = 3) || decide (Cond.methodLinkNest (mp_cn.getD oc "") q.1 (mk_y q.2.1) mk_host ∈ lw_tbl)) = true := by decide +kernel
theorem mz_over : Cond.arrayOver (.object "ShareTable$Table") ∈ lw_tbl := by decide +kernel
theorem mz_cs1 : Cond.laysStatic "java/lang/String" "COMPACT_STRINGS" "Z" ∈ lw_tbl := by decide +kernel
theorem mz_cs2 : Cond.initialized "java/lang/String" ∈ lw_tbl := by decide +kernel
theorem mz_cs3 : Cond.eq (.static "java/lang/String" "COMPACT_STRINGS" "Z") (.int 1) ∈ mz_nn := by decide +kernel
theorem mz_us1 : Cond.laysStatic Bundle.tN "UNASSIGNED_STACK" Bundle.steD ∈ lw_tbl := by decide +kernel
theorem mz_us2 : Cond.initialized Bundle.tN ∈ lw_tbl := by decide +kernel
theorem mz_us3 : Cond.isRef (.static Bundle.tN "UNASSIGNED_STACK" Bundle.steD) ∈ mz_nn := by decide +kernel
theorem mz_us4 : Cond.laysStatic Bundle.tN "SUPPRESSED_SENTINEL" Bundle.listD ∈ lw_tbl := by decide +kernel
theorem mz_us5 : Cond.isRef (.static Bundle.tN "SUPPRESSED_SENTINEL" Bundle.listD) ∈ mz_nn := by decide +kernel
theorem mz_us6 : Cond.castable mt_cls mt_cls ∈ lw_tbl := by decide +kernel
theorem mz_lawn : mp_cn.getD (mp_of mp_law).1 "" = "ShareTableLaw" ∧ mk_b mp_law = code ∧ mp_mx mp_law = 8 ∧ mp_rt mp_law = some .boolean := ⟨by decide +kernel, rfl, by decide +kernel, by decide +kernel⟩
theorem mx_lays : Cond.laysStatic mx_pre "SIOOBE_FORMATTER" mx_bf ∈ lw_tbl := by decide +kernel
theorem mx_ini : Cond.initialized mx_pre ∈ lw_tbl := by decide +kernel
theorem mx_ref : Cond.isRef (.static mx_pre "SIOOBE_FORMATTER" mx_bf) ∈ mz_nn := by decide +kernel
