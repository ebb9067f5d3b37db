/-! EQUATIONS OF STEPS THAT READ, WRITE OR CALL: for rewriting -/
def mo (h : mq_H) (a ci k : Nat) : Bool := match h.2.2 a with
  | .inr (cj, fs) => decide (cj = ci) && decide (k < fs.length)
  | _ => false
def mo0 (h : mq_H) (a ci : Nat) : Bool := match h.2.2 a with
  | .inr (cj, _) => decide (cj = ci)
  | _ => false
def mfs (h : mq_H) (a : Nat) : List Value := match h.2.2 a with
  | .inr (_, fs) => fs
  | _ => []
def mf (h : mq_H) (a k : Nat) : Value := (mfs h a).getD k .null
def mai (h : mq_H) (a kd kd2 : Nat) (i : Int32) : Bool := match h.2.2 a with
  | .inl (k, n, .inl _) => (decide (k = kd) || decide (k = kd2)) && mq_in i n
  | _ => false
def mag (h : mq_H) (a : Nat) : Nat → Int32 := match h.2.2 a with
  | .inl (_, _, .inl g) => g
  | _ => fun _ => 0
def man (h : mq_H) (a : Nat) : Nat := match h.2.2 a with
  | .inl (_, n, _) => n
  | _ => 0
def mal (h : mq_H) (a : Nat) (i : Int32) : Bool := match h.2.2 a with
  | .inl (k, n, .inr (.inl _)) => decide (k = 3) && mq_in i n
  | _ => false
def mlg (h : mq_H) (a : Nat) : Nat → Int64 := match h.2.2 a with
  | .inl (_, _, .inr (.inl g)) => g
  | _ => fun _ => 0
def maq (h : mq_H) (a : Nat) (i : Int32) : Bool := match h.2.2 a with
  | .inl (k, n, .inr (.inr (.inr (.inr _)))) => decide (k = 4) && mq_in i n
  | _ => false
def mqg (h : mq_H) (a : Nat) : Nat → Option Nat := match h.2.2 a with
  | .inl (_, _, .inr (.inr (.inr (.inr g)))) => g
  | _ => fun _ => none
def mak (h : mq_H) (a : Nat) : Bool := match h.2.2 a with
  | .inl (k, _, _) => decide (k < 7)
  | _ => false
/-- what comes of a call -/
def mc (r : Option (Option (Option Value) × mq_H)) (f : Option Value → mq_H → Option (Option (Option Value) × mq_H)) : Option (Option (Option Value) × mq_H) := match r with
  | some (some v, h1) => f v h1
  | _ => none
theorem mc_some (v : Option Value) (h1 : mq_H) (f : Option Value → mq_H → Option (Option (Option Value) × mq_H)) : mc (some (some v, h1)) f = f v h1 := rfl
theorem mz_none {d mi pc : Nat} {ls : mq_L} {st : List Value} {h : mq_H} {q : Instr × Nat} (hi : mp_ins mi pc = some q) (hs : mq_st mi pc ls st h = none) : mz d mi pc ls st h = none := by
  have h298 : ¬ mi = 298 := by
    intro e
    subst e
    rw [mq_no298] at hi
    cases hi
  apply Option.ext
  intro r
  rw [mz_iff]
  constructor
  · rintro ⟨n, hn⟩
    cases n with
    | zero => simp [mq_ex] at hn
    | succ n => rw [mq_ex, hs] at hn; dsimp only at hn; rw [mq_ck_no h298] at hn; cases hn
  · intro q; cases q
section ZX
variable {d mi pc : Nat} {ls : mq_L} {st : List Value} {h : mq_H}
theorem zx_getf {idx ci k a : Nat} (hi : mp_ins mi pc = some (.getfield idx, 3)) (hl : mp_fl mi idx = some (ci, k)) : mz d mi pc ls (.ref a :: st) h = if mo h a ci k = true then mz d mi (pc + 3) ls (mf h a k :: st) h else none := by
  unfold mo mf mfs
  cases hf : h.2.2 a with
  | inl x => exact mz_none hi (mz_st hi (by simp only [mq_do, hl, hf]))
  | inr x =>
    obtain ⟨cj, fs⟩ := x
    dsimp only
    by_cases h1 : k < fs.length
    · by_cases h2 : cj = ci
      · rw [if_pos (by simp [h1, h2])]
        refine mz_go (mz_st hi ?_)
        simp only [mq_do, hl, hf, List.getElem?_eq_getElem h1, h2, if_true, mq_go, List.getD_eq_getElem?_getD, Option.getD_some]
      · rw [if_neg (by simp [h2])]
        refine mz_none hi (mz_st hi ?_)
        simp only [mq_do, hl, hf, List.getElem?_eq_getElem h1, h2, if_false]
    · rw [if_neg (by simp [h1])]
      refine mz_none hi (mz_st hi ?_)
      simp only [mq_do, hl, hf, List.getElem?_eq_none (Nat.not_lt.mp h1)]
theorem zx_putf {idx ci k a : Nat} {v : Value} (hi : mp_ins mi pc = some (.putfield idx, 3)) (hl : mp_fl mi idx = some (ci, k)) (hp : mp_pf mi idx = true) : mz d mi pc ls (v :: .ref a :: st) h = if (mo h a ci k && mq_okv (mp_ft ci k) v) = true then mz d mi (pc + 3) ls st (mq_wr h a (.inr (ci, (mfs h a).set k v))) else none := by
  unfold mo mfs
  cases hf : h.2.2 a with
  | inl x => exact mz_none hi (mz_st hi (by simp only [mq_do, hl, hf]))
  | inr x =>
    obtain ⟨cj, fs⟩ := x
    dsimp only
    by_cases h1 : cj = ci ∧ k < fs.length ∧ mp_pf mi idx = true ∧ mq_okv (mp_ft ci k) v = true
    · rw [if_pos (by simp [h1.1, h1.2.1, h1.2.2.2])]
      refine mz_go (mz_st hi ?_)
      simp only [mq_do, hl, hf, if_pos h1, mq_go]
      rw [h1.1]
    · rw [if_neg (by intro q; simp at q; exact h1 ⟨q.1.1, q.1.2, hp, q.2⟩)]
      refine mz_none hi (mz_st hi ?_)
      simp only [mq_do, hl, hf, if_neg h1]
theorem zx_ari {kd kd2 a : Nat} {i : Int32} : mq_ari (.int i :: .ref a :: st) h.2.2 kd kd2 = if mai h a kd kd2 i = true then some (mag h a i.toNatClampNeg, st) else none := by
  unfold mq_ari mai mag
  dsimp only
  cases hf : h.2.2 a with
  | inr x => rfl
  | inl x =>
    obtain ⟨k, n, y⟩ := x
    cases y with
    | inr y => rfl
    | inl g =>
      dsimp only
      by_cases h1 : (k = kd ∨ k = kd2) ∧ mq_in i n = true
      · rw [if_pos h1, if_pos (by simp [h1.1, h1.2])]
      · rw [if_neg h1, if_neg (by intro q; simp at q; exact h1 q)]
theorem zx_iald {a : Nat} {i : Int32} (hi : mp_ins mi pc = some (.iaload, 1)) : mz d mi pc ls (.int i :: .ref a :: st) h = if mai h a 0 5 i = true then mz d mi (pc + 1) ls (.int (mag h a i.toNatClampNeg) :: st) h else none := by
  by_cases q : mai h a 0 5 i = true
  · rw [if_pos q]; exact mz_go (mz_st hi (by simp only [mq_do, zx_ari, if_pos q, mq_go]))
  · rw [if_neg q]; exact mz_none hi (mz_st hi (by simp only [mq_do, zx_ari, if_neg q]))
theorem zx_bald {a : Nat} {i : Int32} (hi : mp_ins mi pc = some (.baload, 1)) : mz d mi pc ls (.int i :: .ref a :: st) h = if mai h a 1 6 i = true then mz d mi (pc + 1) ls (.int (mag h a i.toNatClampNeg) :: st) h else none := by
  by_cases q : mai h a 1 6 i = true
  · rw [if_pos q]; exact mz_go (mz_st hi (by simp only [mq_do, zx_ari, if_pos q, mq_go]))
  · rw [if_neg q]; exact mz_none hi (mz_st hi (by simp only [mq_do, zx_ari, if_neg q]))
theorem zx_cald {a : Nat} {i : Int32} (hi : mp_ins mi pc = some (.caload, 1)) : mz d mi pc ls (.int i :: .ref a :: st) h = if mai h a 2 2 i = true then mz d mi (pc + 1) ls (.int (mag h a i.toNatClampNeg) :: st) h else none := by
  by_cases q : mai h a 2 2 i = true
  · rw [if_pos q]; exact mz_go (mz_st hi (by simp only [mq_do, zx_ari, if_pos q, mq_go]))
  · rw [if_neg q]; exact mz_none hi (mz_st hi (by simp only [mq_do, zx_ari, if_neg q]))
theorem zx_lald {a : Nat} {i : Int32} (hi : mp_ins mi pc = some (.laload, 1)) : mz d mi pc ls (.int i :: .ref a :: st) h = if mal h a i = true then mz d mi (pc + 1) ls (.long (mlg h a i.toNatClampNeg) :: st) h else none := by
  unfold mal mlg
  split
  next k n g hf =>
    by_cases h1 : k = 3 ∧ mq_in i n = true
    · rw [if_pos (by simp [h1.1, h1.2])]
      exact mz_go (mz_st hi (by simp only [mq_do, hf, if_pos h1, mq_go]))
    · rw [if_neg (by intro q; simp at q; exact h1 q)]
      exact mz_none hi (mz_st hi (by simp only [mq_do, hf, if_neg h1]))
  next hno =>
    rw [if_neg (by decide)]
    refine mz_none hi (mz_st hi ?_)
    simp only [mq_do]
theorem zx_aald {a : Nat} {i : Int32} (hi : mp_ins mi pc = some (.aaload, 1)) : mz d mi pc ls (.int i :: .ref a :: st) h = if maq h a i = true then mz d mi (pc + 1) ls (va_rf (mqg h a i.toNatClampNeg) :: st) h else none := by
  unfold maq mqg
  split
  next k n g hf =>
    by_cases h1 : k = 4 ∧ mq_in i n = true
    · rw [if_pos (by simp [h1.1, h1.2])]
      exact mz_go (mz_st hi (by simp only [mq_do, hf, if_pos h1, mq_go]))
    · rw [if_neg (by intro q; simp at q; exact h1 q)]
      exact mz_none hi (mz_st hi (by simp only [mq_do, hf, if_neg h1]))
  next hno =>
    rw [if_neg (by decide)]
    refine mz_none hi (mz_st hi ?_)
    simp only [mq_do]
theorem zx_alen {a : Nat} (hi : mp_ins mi pc = some (.arraylength, 1)) : mz d mi pc ls (.ref a :: st) h = if mak h a = true then mz d mi (pc + 1) ls (.int (Int32.ofNat (man h a)) :: st) h else none := by
  unfold mak man
  cases hf : h.2.2 a with
  | inr x => exact mz_none hi (mz_st hi (by simp only [mq_do, hf]))
  | inl x =>
    obtain ⟨k, n, y⟩ := x
    dsimp only
    by_cases h1 : k < 7
    · rw [if_pos (by simp [h1])]
      exact mz_go (mz_st hi (by simp only [mq_do, hf, if_pos h1, mq_go]))
    · rw [if_neg (by simp [h1])]
      exact mz_none hi (mz_st hi (by simp only [mq_do, hf, if_neg h1]))
theorem zx_awi {kd a : Nat} {i x : Int32} {z : Int32 → Int32} : mq_awi (.int x :: .int i :: .ref a :: st) h kd z = if mai h a kd kd i = true then some (mq_wr h a (.inl (kd, man h a, .inl (upd (mag h a) i.toNatClampNeg (z x)))), st) else none := by
  unfold mq_awi mai mag man
  dsimp only
  cases hf : h.2.2 a with
  | inr x => rfl
  | inl x =>
    obtain ⟨k, n, y⟩ := x
    cases y with
    | inr y => rfl
    | inl g =>
      dsimp only
      by_cases h1 : k = kd ∧ mq_in i n = true
      · rw [if_pos h1, if_pos (by simp [h1.1, h1.2]), h1.1]
      · rw [if_neg h1, if_neg (by intro q; simp at q; exact h1 q)]
theorem zx_iast {a : Nat} {i x : Int32} (hi : mp_ins mi pc = some (.iastore, 1)) : mz d mi pc ls (.int x :: .int i :: .ref a :: st) h = if mai h a 0 0 i = true then mz d mi (pc + 1) ls st (mq_wr h a (.inl (0, man h a, .inl (upd (mag h a) i.toNatClampNeg x)))) else none := by
  by_cases q : mai h a 0 0 i = true
  · rw [if_pos q]; exact mz_go (mz_st hi (by simp only [mq_do, zx_awi, if_pos q, mq_go]))
  · rw [if_neg q]; exact mz_none hi (mz_st hi (by simp only [mq_do, zx_awi, if_neg q]))
theorem zx_bast {a : Nat} {i x : Int32} (hi : mp_ins mi pc = some (.bastore, 1)) : mz d mi pc ls (.int x :: .int i :: .ref a :: st) h = if mai h a 1 1 i = true then mz d mi (pc + 1) ls st (mq_wr h a (.inl (1, man h a, .inl (upd (mag h a) i.toNatClampNeg (x &&& 1))))) else none := by
  by_cases q : mai h a 1 1 i = true
  · rw [if_pos q]; exact mz_go (mz_st hi (by simp only [mq_do, zx_awi, if_pos q, mq_go]))
  · rw [if_neg q]; exact mz_none hi (mz_st hi (by simp only [mq_do, zx_awi, if_neg q]))
theorem zx_cast {a : Nat} {i x : Int32} (hi : mp_ins mi pc = some (.castore, 1)) : mz d mi pc ls (.int x :: .int i :: .ref a :: st) h = if mai h a 2 2 i = true then mz d mi (pc + 1) ls st (mq_wr h a (.inl (2, man h a, .inl (upd (mag h a) i.toNatClampNeg x.toUInt32.toUInt16.toUInt32.toInt32)))) else none := by
  by_cases q : mai h a 2 2 i = true
  · rw [if_pos q]; exact mz_go (mz_st hi (by simp only [mq_do, zx_awi, if_pos q, mq_go]))
  · rw [if_neg q]; exact mz_none hi (mz_st hi (by simp only [mq_do, zx_awi, if_neg q]))
theorem zx_last {a : Nat} {i : Int32} {x : Int64} (hi : mp_ins mi pc = some (.lastore, 1)) : mz d mi pc ls (.long x :: .int i :: .ref a :: st) h = if mal h a i = true then mz d mi (pc + 1) ls st (mq_wr h a (.inl (3, man h a, .inr (.inl (vp_updL (mlg h a) i.toNatClampNeg x))))) else none := by
  unfold mal mlg man
  cases hf : h.2.2 a with
  | inr x => exact mz_none hi (mz_st hi (by simp only [mq_do, hf]))
  | inl y =>
    obtain ⟨k, n, y⟩ := y
    match y with
    | .inl g => exact mz_none hi (mz_st hi (by simp only [mq_do, hf]))
    | .inr (.inr g) => exact mz_none hi (mz_st hi (by simp only [mq_do, hf]))
    | .inr (.inl g) =>
      dsimp only
      by_cases h1 : k = 3 ∧ mq_in i n = true
      · rw [if_pos (by simp [h1.1, h1.2])]
        exact mz_go (mz_st hi (by simp only [mq_do, hf, if_pos h1, mq_go]; rw [h1.1]))
      · rw [if_neg (by intro q; simp at q; exact h1 q)]
        exact mz_none hi (mz_st hi (by simp only [mq_do, hf, if_neg h1]))
theorem zx_ast {a v : Nat} {i : Int32} (hi : mp_ins mi pc = some (.aastore, 1)) : mz d mi pc ls (.ref v :: .int i :: .ref a :: st) h = if (maq h a i && mo0 h v mp_kt) = true then mz d mi (pc + 1) ls st (mq_wr h a (.inl (4, man h a, .inr (.inr (.inr (.inr (va_up (mqg h a) i.toNatClampNeg (some v)))))))) else none := by
  unfold maq mo0 mqg man
  cases hf : h.2.2 a with
  | inr x => exact mz_none hi (mz_st hi (by simp only [mq_do, hf]))
  | inl y =>
    obtain ⟨k, n, y⟩ := y
    match y with
    | .inl g => exact mz_none hi (mz_st hi (by simp only [mq_do, hf]))
    | .inr (.inl g) => exact mz_none hi (mz_st hi (by simp only [mq_do, hf]))
    | .inr (.inr (.inl g)) => exact mz_none hi (mz_st hi (by simp only [mq_do, hf]))
    | .inr (.inr (.inr (.inl g))) => exact mz_none hi (mz_st hi (by simp only [mq_do, hf]))
    | .inr (.inr (.inr (.inr g))) =>
      cases hg : h.2.2 v with
      | inl x => simp only [Bool.and_false]; exact mz_none hi (mz_st hi (by simp only [mq_do, hf, hg]))
      | inr x =>
        obtain ⟨cj, fs⟩ := x
        dsimp only
        by_cases h1 : k = 4 ∧ cj = mp_kt ∧ mq_in i n = true
        · rw [if_pos (by simp [h1.1, h1.2.1, h1.2.2])]
          exact mz_go (mz_st hi (by simp only [mq_do, hf, hg, if_pos h1, mq_go]; rw [h1.1]))
        · rw [if_neg (by intro q; simp at q; exact h1 ⟨q.1.1, q.2, q.1.2⟩)]
          exact mz_none hi (mz_st hi (by simp only [mq_do, hf, hg, if_neg h1]))
theorem zx_astN {a : Nat} {i : Int32} (hi : mp_ins mi pc = some (.aastore, 1)) : mz d mi pc ls (.null :: .int i :: .ref a :: st) h = if maq h a i = true then mz d mi (pc + 1) ls st (mq_wr h a (.inl (4, man h a, .inr (.inr (.inr (.inr (va_up (mqg h a) i.toNatClampNeg none))))))) else none := by
  unfold maq mqg man
  cases hf : h.2.2 a with
  | inr x => exact mz_none hi (mz_st hi (by simp only [mq_do, hf]))
  | inl y =>
    obtain ⟨k, n, y⟩ := y
    match y with
    | .inl g => exact mz_none hi (mz_st hi (by simp only [mq_do, hf]))
    | .inr (.inl g) => exact mz_none hi (mz_st hi (by simp only [mq_do, hf]))
    | .inr (.inr (.inl g)) => exact mz_none hi (mz_st hi (by simp only [mq_do, hf]))
    | .inr (.inr (.inr (.inl g))) => exact mz_none hi (mz_st hi (by simp only [mq_do, hf]))
    | .inr (.inr (.inr (.inr g))) =>
      dsimp only
      by_cases h1 : k = 4 ∧ mq_in i n = true
      · rw [if_pos (by simp [h1.1, h1.2])]
        exact mz_go (mz_st hi (by simp only [mq_do, hf, if_pos h1, mq_go]; rw [h1.1]))
      · rw [if_neg (by intro q; simp at q; exact h1 q)]
        exact mz_none hi (mz_st hi (by simp only [mq_do, hf, if_neg h1]))
theorem zx_new {idx ci w : Nat} (hi : mp_ins mi pc = some (.new idx, 3)) (hl : mp_nw mi idx = some (ci, w)) (hc : ¬ ci = 50) : mz d mi pc ls st h = mz d mi (pc + 3) ls (.ref h.1 :: st) (mq_mk h w (.inr (ci, mp_df ci))) := mz_go (mz_st hi (by simp only [mq_do, hl, if_neg hc, mq_go]))
theorem zx_throw {idx w : Nat} (hi : mp_ins mi pc = some (.new idx, 3)) (hl : mp_nw mi idx = some (50, w)) (hd : 6 ≤ d) : mz d mi pc ls [] h = some (none, (h.1 + 1, h.2.1 + 6, h.2.2)) := mz_throw (mz_st hi (by simp only [mq_do, hl, if_true])) hd
theorem zx_newa {aty : ArrayType} {k : Nat} {f : Nat → vp_A} {m : Int32} (hi : mp_ins mi pc = some (.newarray aty, 2)) (hk : mq_arn aty = some (k, f)) : mz d mi pc ls (.int m :: st) h = if ¬ m < 0 ∧ m.toNatClampNeg ≤ 65536 then mz d mi (pc + 2) ls (.ref h.1 :: st) (mq_mk h m.toNatClampNeg (.inl (k, f m.toNatClampNeg))) else none := by
  by_cases q : ¬ m < 0 ∧ m.toNatClampNeg ≤ 65536
  · rw [if_pos q]; exact mz_go (mz_st hi (by simp only [mq_do, hk, if_pos q, mq_go]))
  · rw [if_neg q]; exact mz_none hi (mz_st hi (by simp only [mq_do, hk, if_neg q]))
theorem zx_newq {idx : Nat} {m : Int32} (hi : mp_ins mi pc = some (.anewarray idx, 3)) (hl : mp_an mi idx = true) : mz d mi pc ls (.int m :: st) h = if ¬ m < 0 ∧ m.toNatClampNeg ≤ 65536 then mz d mi (pc + 3) ls (.ref h.1 :: st) (mq_mk h m.toNatClampNeg (.inl (4, m.toNatClampNeg, .inr (.inr (.inr (.inr (fun _ => none))))))) else none := by
  by_cases q : ¬ m < 0 ∧ m.toNatClampNeg ≤ 65536
  · rw [if_pos q]; exact mz_go (mz_st hi (by simp only [mq_do, hl, true_and, if_pos q, mq_go]))
  · rw [if_neg q]; exact mz_none hi (mz_st hi (by simp only [mq_do, hl, true_and, if_neg q]))
theorem zx_if {cd : Jvm.ClassFile.Cond} {off : Int} {x : Int32} {tgt : Nat} (hi : mp_ins mi pc = some (.ifCond cd off, 3)) (h0 : (pc : Int) + off = (tgt : Int)) : mz d mi pc ls (.int x :: st) h = if mq_cmp cd x 0 = true then mz d mi tgt ls st h else mz d mi (pc + 3) ls st h := by
  have h1 : mz d mi pc ls (.int x :: st) h = mz d mi (if mq_cmp cd x 0 = true then mq_to pc off else pc + 3) ls st h := mz_go (mz_st hi (by simp only [mq_do, mq_jump, h0, Int.natCast_nonneg, if_true, mq_go]))
  rw [h1]
  have h2 : mq_to pc off = tgt := by unfold mq_to; omega
  by_cases q : mq_cmp cd x 0 = true
  · rw [if_pos q, if_pos q, h2]
  · rw [if_neg q, if_neg q]
theorem zx_icmp {cd : Jvm.ClassFile.Cond} {off : Int} {x y : Int32} {tgt : Nat} (hi : mp_ins mi pc = some (.if_icmp cd off, 3)) (h0 : (pc : Int) + off = (tgt : Int)) : mz d mi pc ls (.int y :: .int x :: st) h = if mq_cmp cd x y = true then mz d mi tgt ls st h else mz d mi (pc + 3) ls st h := by
  have h1 : mz d mi pc ls (.int y :: .int x :: st) h = mz d mi (if mq_cmp cd x y = true then mq_to pc off else pc + 3) ls st h := mz_go (mz_st hi (by simp only [mq_do, mq_jump, h0, Int.natCast_nonneg, if_true, mq_go]))
  rw [h1]
  have h2 : mq_to pc off = tgt := by unfold mq_to; omega
  by_cases q : mq_cmp cd x y = true
  · rw [if_pos q, if_pos q, h2]
  · rw [if_neg q, if_neg q]
theorem zx_sw {d9 lo hi9 : Int} {offs : Array Int} {x : Int32} {n : Nat} (hi : mp_ins mi pc = some (.tableswitch d9 lo hi9 offs, n)) : mz d mi pc ls (.int x :: st) h = match mq_sw d9 lo hi9 offs.toList x with
    | some off => if 0 ≤ (pc : Int) + off then mz d mi (mq_to pc off) ls st h else none
    | none => none := by
  cases hs : mq_sw d9 lo hi9 offs.toList x with
  | none => exact mz_none hi (mz_st hi (by simp only [mq_do, hs]))
  | some off =>
    dsimp only
    by_cases q : 0 ≤ (pc : Int) + off
    · rw [if_pos q]; exact mz_go (mz_st hi (by simp only [mq_do, hs, mq_jump, if_pos q, mq_go, if_true]))
    · rw [if_neg q]; exact mz_none hi (mz_st hi (by simp only [mq_do, hs, mq_jump, if_neg q]))
theorem zx_mc {mj : Nat} {as rest : List Value} (hs : mq_st mi pc ls st h = some (.inr (.inl (mj, as, rest)))) (hal : (mq_al as).length ≤ mp_mx mj) (hh : mp_hd mi pc = none) : mz (d + 1) mi pc ls st h = mc (mz d mj 0 (mq_en as (mp_mx mj)) [] h) (fun v h1 => mz (d + 1) mi (pc + 3) ls (v.toList ++ rest) h1) := by
  cases hq : mz d mj 0 (mq_en as (mp_mx mj)) [] h with
  | some y =>
    obtain ⟨v, h1⟩ := y
    cases v with
    | some v => rw [mz_call hs hal hq]; rfl
    | none =>
      show _ = none
      obtain ⟨n1, hn1⟩ := mz_iff.mp hq
      apply Option.ext
      intro r
      rw [mz_iff]
      constructor
      · rintro ⟨n, hn⟩
        cases n with
        | zero => simp [mq_ex] at hn
        | succ n =>
          rw [mq_ex, hs] at hn
          dsimp only at hn
          rw [if_pos hal] at hn
          cases hq2 : mq_ex n d mj 0 (mq_en as (mp_mx mj)) [] h with
          | none => rw [hq2] at hn; cases hn
          | some y =>
            have := mz_det hq2 hn1
            subst this
            rw [hq2, hh] at hn
            cases hn
      · intro q; cases q
  | none =>
    show _ = none
    apply Option.ext
    intro r
    rw [mz_iff]
    constructor
    · rintro ⟨n, hn⟩
      cases n with
      | zero => simp [mq_ex] at hn
      | succ n =>
        rw [mq_ex, hs] at hn
        dsimp only at hn
        rw [if_pos hal] at hn
        cases hq2 : mq_ex n d mj 0 (mq_en as (mp_mx mj)) [] h with
        | none => rw [hq2] at hn; cases hn
        | some y =>
          have := mz_iff.mpr ⟨n, hq2⟩
          rw [hq] at this
          cases this
    · intro q; cases q
/-- a call of an object's method -/
theorem zx_cv {idx mj a : Nat} {st' as rest : List Value} (hi : mp_ins mi pc = some (.invokevirtual idx, 3)) (hl : mp_lk mi idx = some (mj, 0)) (hlen : mp_np mj ≤ st'.length) (hs : (st'.take (mp_np mj)).reverse = .ref a :: as) (hr : st'.drop (mp_np mj) = rest) (hw : (rest.map fun v => v.category).sum ≤ 8) (hal : (mq_al (.ref a :: as)).length ≤ mp_mx mj) (hh : mp_hd mi pc = none) :
    mz (d + 1) mi pc ls st' h = if mo0 h a (mp_ck mj) = true then mc (mz d mj 0 (mq_en (.ref a :: as) (mp_mx mj)) [] h) (fun v h1 => mz (d + 1) mi (pc + 3) ls (v.toList ++ rest) h1) else none := by
  subst hr
  unfold mo0
  have hk : 0 ∈ [0] ∧ mp_np mj ≤ st'.length ∧ ((st'.drop (mp_np mj)).map fun v => v.category).sum ≤ 8 := ⟨by simp, hlen, hw⟩
  cases hf : h.2.2 a with
  | inl x => exact mz_none hi (mz_st hi (by simp only [mq_do, mq_call, hl, if_pos hk, if_true, hs, hf]))
  | inr x =>
    obtain ⟨cj, fs⟩ := x
    dsimp only
    by_cases q : cj = mp_ck mj
    · rw [if_pos (by simp [q])]
      exact zx_mc (mz_st hi (by simp only [mq_do, mq_call, hl, if_pos hk, if_true, hs, hf, if_pos q])) hal hh
    · rw [if_neg (by simp [q])]
      exact mz_none hi (mz_st hi (by simp only [mq_do, mq_call, hl, if_pos hk, if_true, hs, hf, if_neg q]))
theorem zx_cs {idx mj : Nat} {st' as rest : List Value} (hi : mp_ins mi pc = some (.invokestatic idx, 3)) (hl : mp_lk mi idx = some (mj, 1)) (hlen : mp_np mj ≤ st'.length) (hs : (st'.take (mp_np mj)).reverse = as) (hr : st'.drop (mp_np mj) = rest) (hw : (rest.map fun v => v.category).sum ≤ 8) (hal : (mq_al as).length ≤ mp_mx mj) (hh : mp_hd mi pc = none) :
    mz (d + 1) mi pc ls st' h = mc (mz d mj 0 (mq_en as (mp_mx mj)) [] h) (fun v h1 => mz (d + 1) mi (pc + 3) ls (v.toList ++ rest) h1) := by
  subst hr; subst hs
  have hk : 1 ∈ [1, 5] ∧ mp_np mj ≤ st'.length ∧ ((st'.drop (mp_np mj)).map fun v => v.category).sum ≤ 8 := ⟨by simp, hlen, hw⟩
  exact zx_mc (mz_st hi (by simp only [mq_do, mq_call, hl, if_pos hk]; simp)) hal hh
theorem zx_ci {idx mj kd a : Nat} {st' as rest : List Value} (hi : mp_ins mi pc = some (.invokespecial idx, 3)) (hl : mp_lk mi idx = some (mj, kd)) (hkd : kd ∈ [2, 3, 6]) (hlen : mp_np mj ≤ st'.length) (hs : (st'.take (mp_np mj)).reverse = .ref a :: as) (hr : st'.drop (mp_np mj) = rest) (hw : (rest.map fun v => v.category).sum ≤ 8) (hal : (mq_al (.ref a :: as)).length ≤ mp_mx mj) (hh : mp_hd mi pc = none) :
    mz (d + 1) mi pc ls st' h = mc (mz d mj 0 (mq_en (.ref a :: as) (mp_mx mj)) [] h) (fun v h1 => mz (d + 1) mi (pc + 3) ls (v.toList ++ rest) h1) := by
  subst hr
  have hk : kd ∈ [2, 3, 6] ∧ mp_np mj ≤ st'.length ∧ ((st'.drop (mp_np mj)).map fun v => v.category).sum ≤ 8 := ⟨hkd, hlen, hw⟩
  have h0 : ¬ kd = 0 ∧ ¬ (kd = 1 ∨ kd = 5) := by simp at hkd; omega
  exact zx_mc (mz_st hi (by simp only [mq_do, mq_call, hl, if_pos hk, if_neg h0.1, if_neg h0.2, hs])) hal hh
end ZX
section ZY
variable {d mi pc : Nat} {ls : mq_L} {st : List Value} {h : mq_H}
theorem zx_idiv {x z : Int32} (hi : mp_ins mi pc = some (.idiv, 1)) : mz d mi pc ls (.int z :: .int x :: st) h = if z = 0 then none else mz d mi (pc + 1) ls (.int (x / z) :: st) h := by
  by_cases q : z = 0
  · rw [if_pos q]; exact mz_none hi (mz_st hi (by simp only [mq_do, mq_un, mq_bin, if_pos q]))
  · rw [if_neg q]; exact mz_go (mz_st hi (by simp only [mq_do, mq_un, mq_bin, if_neg q, mq_go]))
theorem zx_irem {x z : Int32} (hi : mp_ins mi pc = some (.irem, 1)) : mz d mi pc ls (.int z :: .int x :: st) h = if z = 0 then none else mz d mi (pc + 1) ls (.int (x - x / z * z) :: st) h := by
  by_cases q : z = 0
  · rw [if_pos q]; exact mz_none hi (mz_st hi (by simp only [mq_do, mq_un, mq_bin, if_pos q]))
  · rw [if_neg q]; exact mz_go (mz_st hi (by simp only [mq_do, mq_un, mq_bin, if_neg q, mq_go]))
theorem zx_ldiv {x z : Int64} (hi : mp_ins mi pc = some (.ldiv, 1)) : mz d mi pc ls (.long z :: .long x :: st) h = if z = 0 then none else mz d mi (pc + 1) ls (.long (x / z) :: st) h := by
  by_cases q : z = 0
  · rw [if_pos q]; exact mz_none hi (mz_st hi (by simp only [mq_do, mq_un, mq_bin, if_pos q]))
  · rw [if_neg q]; exact mz_go (mz_st hi (by simp only [mq_do, mq_un, mq_bin, if_neg q, mq_go]))
theorem zx_lrem {x z : Int64} (hi : mp_ins mi pc = some (.lrem, 1)) : mz d mi pc ls (.long z :: .long x :: st) h = if z = 0 then none else mz d mi (pc + 1) ls (.long (x - x / z * z) :: st) h := by
  by_cases q : z = 0
  · rw [if_pos q]; exact mz_none hi (mz_st hi (by simp only [mq_do, mq_un, mq_bin, if_pos q]))
  · rw [if_neg q]; exact mz_go (mz_st hi (by simp only [mq_do, mq_un, mq_bin, if_neg q, mq_go]))
theorem zx_iret {n : Nat} {v : Int32} {ty : FieldType} (hr : mp_rt mi = some ty) (hv : narrow ty (.int v) = .int v) : mq_do mi pc .ireturn n ls [.int v] h = some (.inr (.inr (some (some (.int v))))) := by
  simp only [mq_do, hr, if_pos hv]
end ZY
section ZW
variable {d mi pc : Nat} {ls : mq_L} {h : mq_H}
theorem zy_cv {idx mj a k x ck : Nat} {st' as rest : List Value} {en : mq_L} (hi : mp_ins mi pc = some (.invokevirtual idx, 3)) (hl : mp_lk mi idx = some (mj, 0)) (ht : mp_np mj = k ∧ mp_mx mj = x ∧ mp_ck mj = ck) (hh : mp_hd mi pc = none) (hlen : k ≤ st'.length) (hs : (st'.take k).reverse = .ref a :: as) (hr : st'.drop k = rest) (hw : (rest.map fun v => v.category).sum ≤ 8) (hal : (mq_al (.ref a :: as)).length ≤ x) (hen : mq_en (.ref a :: as) x = en) :
    mz (d + 1) mi pc ls st' h = if mo0 h a ck = true then mc (mz d mj 0 en [] h) (fun v h1 => mz (d + 1) mi (pc + 3) ls (v.toList ++ rest) h1) else none := by
  obtain ⟨rfl, rfl, rfl⟩ := ht
  subst hen
  exact zx_cv hi hl hlen hs hr hw hal hh
theorem zy_cs {idx mj k x : Nat} {st' as rest : List Value} {en : mq_L} (hi : mp_ins mi pc = some (.invokestatic idx, 3)) (hl : mp_lk mi idx = some (mj, 1)) (ht : mp_np mj = k ∧ mp_mx mj = x) (hh : mp_hd mi pc = none) (hlen : k ≤ st'.length) (hs : (st'.take k).reverse = as) (hr : st'.drop k = rest) (hw : (rest.map fun v => v.category).sum ≤ 8) (hal : (mq_al as).length ≤ x) (hen : mq_en as x = en) :
    mz (d + 1) mi pc ls st' h = mc (mz d mj 0 en [] h) (fun v h1 => mz (d + 1) mi (pc + 3) ls (v.toList ++ rest) h1) := by
  obtain ⟨rfl, rfl⟩ := ht
  subst hen
  exact zx_cs hi hl hlen hs hr hw hal hh
theorem zy_ci {idx mj kd a k x : Nat} {st' as rest : List Value} {en : mq_L} (hi : mp_ins mi pc = some (.invokespecial idx, 3)) (hl : mp_lk mi idx = some (mj, kd)) (hkd : kd ∈ [2, 3, 6]) (ht : mp_np mj = k ∧ mp_mx mj = x) (hh : mp_hd mi pc = none) (hlen : k ≤ st'.length) (hs : (st'.take k).reverse = .ref a :: as) (hr : st'.drop k = rest) (hw : (rest.map fun v => v.category).sum ≤ 8) (hal : (mq_al (.ref a :: as)).length ≤ x) (hen : mq_en (.ref a :: as) x = en) :
    mz (d + 1) mi pc ls st' h = mc (mz d mj 0 en [] h) (fun v h1 => mz (d + 1) mi (pc + 3) ls (v.toList ++ rest) h1) := by
  obtain ⟨rfl, rfl⟩ := ht
  subst hen
  exact zx_ci hi hl hkd hlen hs hr hw hal hh
end ZW
/-- String.checkIndex of an index within -/
theorem x298_0 (d : Nat) (h : mq_H) (x y : Int32) (hx : ¬ x < 0) (hy : x < y) : mz (d + 1) 298 0 [some (.int x), some (.int y)] [] h = some (some none, h) := by
  refine mz_iff.mpr ⟨1, ?_⟩
  have hs : mq_st 298 0 [some (.int x), some (.int y)] [] h = none := by unfold mq_st; rw [mq_no298]
  rw [mq_ex, hs]
  show mq_ck 298 0 (d + 1) _ _ h = _
  unfold mq_ck
  rw [if_pos ⟨rfl, rfl, by omega, rfl⟩]
  dsimp only
  rw [if_pos ⟨hx, hy⟩]
