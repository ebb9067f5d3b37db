/-! RUNS WITHOUT COUNTING STEPS: mz is what a frame comes to, and each step is an equation -/
theorem mz_more : ∀ (n d mi pc : Nat) (ls : mq_L) (st : List Value) (h : mq_H) (r : Option (Option Value) × mq_H), mq_ex n d mi pc ls st h = some r → mq_ex (n + 1) d mi pc ls st h = some r
  | 0, d, mi, pc, ls, st, h, r, he => by simp [mq_ex] at he
  | n + 1, d, mi, pc, ls, st, h, r, he => by
    rw [mq_ex] at he ⊢
    cases hs : mq_st mi pc ls st h with
    | none => rw [hs] at he; exact he
    | some x =>
      rw [hs] at he
      match x, he with
      | .inl (pc', ls', st', h'), he => exact mz_more n d mi pc' ls' st' h' r he
      | .inr (.inl (mj, as, rest)), he =>
        cases d with
        | zero => cases he
        | succ d' =>
          dsimp only at he ⊢
          by_cases hal : (mq_al as).length ≤ mp_mx mj
          · rw [if_pos hal] at he ⊢
            cases hq : mq_ex n d' mj 0 (mq_en as (mp_mx mj)) [] h with
            | none => rw [hq] at he; cases he
            | some y =>
              rw [hq] at he
              rw [mz_more n d' mj 0 _ [] h y hq]
              match y, he with
              | (some v, h1), he => exact mz_more n (d' + 1) mi (pc + 3) ls (v.toList ++ rest) h1 r he
              | (none, h1), he =>
                dsimp only at he ⊢
                cases hd : mp_hd mi pc with
                | none => rw [hd] at he; cases he
                | some z =>
                  rw [hd] at he
                  obtain ⟨pc2, k⟩ := z
                  dsimp only at he ⊢
                  by_cases hk : k < ls.length
                  · rw [if_pos hk] at he ⊢
                    exact mz_more n (d' + 1) mi pc2 _ [] h1 r he
                  · rw [if_neg hk] at he; cases he
          · rw [if_neg hal] at he; cases he
      | .inr (.inr (some v)), he => exact he
      | .inr (.inr none), he => exact he
theorem mz_le {n n' d mi pc : Nat} {ls : mq_L} {st : List Value} {h : mq_H} {r : Option (Option Value) × mq_H} (hn : n ≤ n') (he : mq_ex n d mi pc ls st h = some r) : mq_ex n' d mi pc ls st h = some r := by
  induction hn with
  | refl => exact he
  | step _ ih => exact mz_more _ _ _ _ _ _ _ _ ih
theorem mz_det {n n' d mi pc : Nat} {ls : mq_L} {st : List Value} {h : mq_H} {r r' : Option (Option Value) × mq_H} (he : mq_ex n d mi pc ls st h = some r) (he' : mq_ex n' d mi pc ls st h = some r') : r = r' := by
  rcases Nat.le_total n n' with q | q
  · exact Option.some.inj ((mz_le q he).symm.trans he')
  · exact Option.some.inj (he.symm.trans (mz_le q he'))
noncomputable def mz (d mi pc : Nat) (ls : mq_L) (st : List Value) (h : mq_H) : Option (Option (Option Value) × mq_H) := @dite _ (∃ r n, mq_ex n d mi pc ls st h = some r) (Classical.propDecidable _) (fun hh => some (Classical.choose hh)) (fun _ => none)
theorem mz_iff {d mi pc : Nat} {ls : mq_L} {st : List Value} {h : mq_H} {r : Option (Option Value) × mq_H} : mz d mi pc ls st h = some r ↔ ∃ n, mq_ex n d mi pc ls st h = some r := by
  unfold mz
  by_cases hh : ∃ r n, mq_ex n d mi pc ls st h = some r
  · rw [dif_pos hh]
    obtain ⟨n0, h0⟩ := Classical.choose_spec hh
    constructor
    · intro e
      cases e
      exact ⟨n0, h0⟩
    · rintro ⟨n, hn⟩
      rw [mz_det h0 hn]
  · rw [dif_neg hh]
    constructor
    · intro e; cases e
    · rintro ⟨n, hn⟩; exact absurd ⟨r, n, hn⟩ hh
theorem mz_go {d mi pc pc' : Nat} {ls ls' : mq_L} {st st' : List Value} {h h' : mq_H} (hs : mq_st mi pc ls st h = some (.inl (pc', ls', st', h'))) : mz d mi pc ls st h = mz d mi pc' ls' st' h' := by
  apply Option.ext
  intro r
  rw [mz_iff, mz_iff]
  constructor
  · rintro ⟨n, hn⟩
    cases n with
    | zero => simp [mq_ex] at hn
    | succ n => rw [mq_ex, hs] at hn; exact ⟨n, hn⟩
  · rintro ⟨n, hn⟩
    refine ⟨n + 1, ?_⟩
    rw [mq_ex, hs]
    exact hn
theorem mz_end {d mi pc : Nat} {ls : mq_L} {st : List Value} {h : mq_H} {v : Option Value} (hs : mq_st mi pc ls st h = some (.inr (.inr (some v)))) : mz d mi pc ls st h = some (some v, h) := mz_iff.mpr ⟨1, by rw [mq_ex, hs]⟩
theorem mz_throw {d mi pc : Nat} {ls : mq_L} {st : List Value} {h : mq_H} (hs : mq_st mi pc ls st h = some (.inr (.inr none))) (hd : 6 ≤ d) : mz d mi pc ls st h = some (none, (h.1 + 1, h.2.1 + 6, h.2.2)) := mz_iff.mpr ⟨1, by rw [mq_ex, hs]; exact if_pos hd⟩
/-- a call that returns -/
theorem mz_call {d mi pc mj : Nat} {ls : mq_L} {st as rest : List Value} {h h1 : mq_H} {v : Option Value} (hs : mq_st mi pc ls st h = some (.inr (.inl (mj, as, rest)))) (hal : (mq_al as).length ≤ mp_mx mj) (hc : mz d mj 0 (mq_en as (mp_mx mj)) [] h = some (some v, h1)) : mz (d + 1) mi pc ls st h = mz (d + 1) mi (pc + 3) ls (v.toList ++ rest) h1 := by
  obtain ⟨n1, hn1⟩ := mz_iff.mp hc
  apply Option.ext
  intro r
  rw [mz_iff, mz_iff]
  constructor
  · rintro ⟨n, hn⟩
    cases n with
    | zero => simp [mq_ex] at hn
    | succ n =>
      rw [mq_ex, hs] at hn
      dsimp only at hn
      rw [if_pos hal] at hn
      cases hq : mq_ex n d mj 0 (mq_en as (mp_mx mj)) [] h with
      | none => rw [hq] at hn; cases hn
      | some y =>
        have := mz_det hq hn1
        subst this
        rw [hq] at hn
        exact ⟨n, hn⟩
  · rintro ⟨n, hn⟩
    refine ⟨max n n1 + 1, ?_⟩
    rw [mq_ex, hs]
    dsimp only
    rw [if_pos hal, mz_le (Nat.le_max_right n n1) hn1]
    exact mz_le (Nat.le_max_left n n1) hn
/-- a call that throws, and is caught -/
theorem mz_catch {d mi pc mj pc2 k : Nat} {ls : mq_L} {st as rest : List Value} {h h1 : mq_H} (hs : mq_st mi pc ls st h = some (.inr (.inl (mj, as, rest)))) (hal : (mq_al as).length ≤ mp_mx mj) (hc : mz d mj 0 (mq_en as (mp_mx mj)) [] h = some (none, h1)) (hh : mp_hd mi pc = some (pc2, k)) (hk : k < ls.length) : mz (d + 1) mi pc ls st h = mz (d + 1) mi pc2 ((mq_s1 ls k .null).set k none) [] h1 := by
  obtain ⟨n1, hn1⟩ := mz_iff.mp hc
  apply Option.ext
  intro r
  rw [mz_iff, mz_iff]
  constructor
  · rintro ⟨n, hn⟩
    cases n with
    | zero => simp [mq_ex] at hn
    | succ n =>
      rw [mq_ex, hs] at hn
      dsimp only at hn
      rw [if_pos hal] at hn
      cases hq : mq_ex n d mj 0 (mq_en as (mp_mx mj)) [] h with
      | none => rw [hq] at hn; cases hn
      | some y =>
        have := mz_det hq hn1
        subst this
        rw [hq, hh] at hn
        dsimp only at hn
        rw [if_pos hk] at hn
        exact ⟨n, hn⟩
  · rintro ⟨n, hn⟩
    refine ⟨max n n1 + 1, ?_⟩
    rw [mq_ex, hs]
    dsimp only
    rw [if_pos hal, mz_le (Nat.le_max_right n n1) hn1]
    dsimp only
    rw [hh]
    dsimp only
    rw [if_pos hk]
    exact mz_le (Nat.le_max_left n n1) hn
theorem mz_st {mi pc n : Nat} {i : Instr} {ls : mq_L} {st : List Value} {h : mq_H} {x : Option mq_R} (hi : mp_ins mi pc = some (i, n)) (hd : mq_do mi pc i n ls st h = x) : mq_st mi pc ls st h = x := by
  unfold mq_st
  rw [hi]
  exact hd
