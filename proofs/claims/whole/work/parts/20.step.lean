/-! ONE STEP of the model machine, over the program's tables (part 03) -/
/-- what a step comes to: a next frame; a call (method, arguments, the rest of the stack); an end (none: it throws; some v: it returns v) -/
abbrev mq_R : Type := (Nat × mq_L × List Value × mq_H) ⊕ ((Nat × List Value × List Value) ⊕ Option (Option Value))
def mq_go (pc : Nat) (ls : mq_L) (st : List Value) (h : mq_H) : Option mq_R := some (.inl (pc, ls, st, h))
def mq_jump (b : Bool) (pc n : Nat) (off : Int) (ls : mq_L) (st : List Value) (h : mq_H) : Option mq_R :=
  if 0 ≤ (pc : Int) + off then mq_go (if b then mq_to pc off else pc + n) ls st h else none
/-- an index within -/
def mq_in (i : Int32) (n : Nat) : Bool := decide (¬ i < 0) && decide (i.toNatClampNeg < n)
def mq_okv (ty : FieldType) (v : Value) : Bool := decide (narrow ty v = v) && fits ty v
def mq_mk (h : mq_H) (w : Nat) (x : mq_E) : mq_H := (h.1 + 1, h.2.1 + w, mq_up h.2.2 h.1 x)
def mq_wr (h : mq_H) (a : Nat) (x : mq_E) : mq_H := (h.1, h.2.1, mq_up h.2.2 a x)
def mq_ari (st : List Value) (f : Nat → mq_E) (kd kd2 : Nat) : Option (Int32 × List Value) := match st with
  | .int i :: .ref a :: t => match f a with
    | .inl (k, n, .inl g) => if (k = kd ∨ k = kd2) ∧ mq_in i n = true then some (g i.toNatClampNeg, t) else none
    | _ => none
  | _ => none
def mq_awi (st : List Value) (h : mq_H) (kd : Nat) (z : Int32 → Int32) : Option (mq_H × List Value) := match st with
  | .int x :: .int i :: .ref a :: t => match h.2.2 a with
    | .inl (k, n, .inl g) => if k = kd ∧ mq_in i n = true then some (mq_wr h a (.inl (k, n, .inl (upd g i.toNatClampNeg (z x)))), t) else none
    | _ => none
  | _ => none
def mq_call (mi idx : Nat) (kinds : List Nat) (st : List Value) (h : mq_H) : Option mq_R := match mp_lk mi idx with
  | some (mj, kd) => if kd ∈ kinds ∧ mp_np mj ≤ st.length ∧ ((st.drop (mp_np mj)).map fun v => v.category).sum ≤ 8 then
      (if kd = 0 then (match (st.take (mp_np mj)).reverse with
        | .ref a :: as => (match h.2.2 a with
          | .inr (cj, _) => if cj = mp_ck mj then some (.inr (.inl (mj, .ref a :: as, st.drop (mp_np mj)))) else none
          | _ => none)
        | _ => none)
      else if kd = 1 ∨ kd = 5 then some (.inr (.inl (mj, (st.take (mp_np mj)).reverse, st.drop (mp_np mj))))
      else (match (st.take (mp_np mj)).reverse with
        | .ref a :: as => some (.inr (.inl (mj, .ref a :: as, st.drop (mp_np mj))))
        | _ => none)) else none
  | none => none
def mq_arn (at_ : ArrayType) : Option (Nat × (Nat → vp_A)) := match at_ with
  | .int => some (0, fun n => (n, .inl (fun _ => 0)))
  | .boolean => some (1, fun n => (n, .inl (fun _ => 0)))
  | .char => some (2, fun n => (n, .inl (fun _ => 0)))
  | .long => some (3, fun n => (n, .inr (.inl (fun _ => 0))))
  | _ => none
def mq_do (mi pc : Nat) (i : Instr) (n : Nat) (ls : mq_L) (st : List Value) (h : mq_H) : Option mq_R :=
  match i with
  | .iconst k => mq_go (pc + n) ls (.int (Int32.ofInt k) :: st) h
  | .bipush k => mq_go (pc + n) ls (.int (Int8.ofInt k).toInt32 :: st) h
  | .sipush k => mq_go (pc + n) ls (.int (Int16.ofInt k).toInt32 :: st) h
  | .lconst k => mq_go (pc + n) ls (.long (Int64.ofNat (k : Nat)) :: st) h
  | .aconst_null => mq_go (pc + n) ls (.null :: st) h
  | .iload k => (match mq_ld ls k with
    | some (.int x) => mq_go (pc + n) ls (.int x :: st) h
    | _ => none)
  | .iload_n k => (match mq_ld ls k with
    | some (.int x) => mq_go (pc + n) ls (.int x :: st) h
    | _ => none)
  | .lload k => (match mq_ld ls k with
    | some (.long x) => mq_go (pc + n) ls (.long x :: st) h
    | _ => none)
  | .lload_n k => (match mq_ld ls k with
    | some (.long x) => mq_go (pc + n) ls (.long x :: st) h
    | _ => none)
  | .aload k => (match mq_ld ls k with
    | some (.ref x) => mq_go (pc + n) ls (.ref x :: st) h
    | some .null => mq_go (pc + n) ls (.null :: st) h
    | _ => none)
  | .aload_n k => (match mq_ld ls k with
    | some (.ref x) => mq_go (pc + n) ls (.ref x :: st) h
    | some .null => mq_go (pc + n) ls (.null :: st) h
    | _ => none)
  | .istore k => (match st with
    | .int x :: t => if k < ls.length then mq_go (pc + n) (mq_s1 ls k (.int x)) t h else none
    | _ => none)
  | .istore_n k => (match st with
    | .int x :: t => if (k : Nat) < ls.length then mq_go (pc + n) (mq_s1 ls k (.int x)) t h else none
    | _ => none)
  | .lstore k => (match st with
    | .long x :: t => if k + 1 < ls.length then mq_go (pc + n) (mq_s2 ls k (.long x)) t h else none
    | _ => none)
  | .lstore_n k => (match st with
    | .long x :: t => if (k : Nat) + 1 < ls.length then mq_go (pc + n) (mq_s2 ls k (.long x)) t h else none
    | _ => none)
  | .astore k => (match st with
    | .ref x :: t => if k < ls.length then mq_go (pc + n) (mq_s1 ls k (.ref x)) t h else none
    | .null :: t => if k < ls.length then mq_go (pc + n) (mq_s1 ls k .null) t h else none
    | _ => none)
  | .astore_n k => (match st with
    | .ref x :: t => if (k : Nat) < ls.length then mq_go (pc + n) (mq_s1 ls k (.ref x)) t h else none
    | .null :: t => if (k : Nat) < ls.length then mq_go (pc + n) (mq_s1 ls k .null) t h else none
    | _ => none)
  | .iinc k z => (match mq_ld ls k with
    | some (.int x) => if k < ls.length then mq_go (pc + n) (mq_s1 ls k (.int (x + Int32.ofInt z))) st h else none
    | _ => none)
  | .dup => (match st with
    | v :: t => if v.category = 1 then mq_go (pc + n) ls (v :: v :: t) h else none
    | _ => none)
  | .dup2 => (match st with
    | v :: w :: t => if v.category = 1 ∧ w.category = 1 then mq_go (pc + n) ls (v :: w :: v :: w :: t) h else none
    | _ => none)
  | .pop => (match st with
    | v :: t => if v.category = 1 then mq_go (pc + n) ls t h else none
    | _ => none)
  | .ifCond c off => (match st with
    | .int x :: t => mq_jump (mq_cmp c x 0) pc n off ls t h
    | _ => none)
  | .if_icmp c off => (match st with
    | .int y :: .int x :: t => mq_jump (mq_cmp c x y) pc n off ls t h
    | _ => none)
  | .ifnull off => (match st with
    | .null :: t => mq_jump true pc n off ls t h
    | .ref _ :: t => mq_jump false pc n off ls t h
    | _ => none)
  | .ifnonnull off => (match st with
    | .null :: t => mq_jump false pc n off ls t h
    | .ref _ :: t => mq_jump true pc n off ls t h
    | _ => none)
  | .goto off => mq_jump true pc n off ls st h
  | .tableswitch d lo hi offs => (match st with
    | .int x :: t => (match mq_sw d lo hi offs.toList x with
      | some off => mq_jump true pc n off ls t h
      | none => none)
    | _ => none)
  | .ldc idx => (match mp_ki mi idx with
    | some v => mq_go (pc + n) ls (.int v :: st) h
    | none => (match mp_ks mi idx with
      | some a => mq_go (pc + n) ls (.ref a :: st) h
      | none => none))
  | .ldc_w idx => (match mp_ki mi idx with
    | some v => mq_go (pc + n) ls (.int v :: st) h
    | none => none)
  | .ldc2_w idx => (match mp_kl mi idx with
    | some v => mq_go (pc + n) ls (.long v :: st) h
    | none => none)
  | .getstatic idx => (match mp_sg mi idx with
    | some v => mq_go (pc + n) ls (.int v :: st) h
    | none => none)
  | .getfield idx => (match st with
    | .ref a :: t => (match mp_fl mi idx with
      | some (ci, k) => (match h.2.2 a with
        | .inr (cj, fs) => (match fs[k]? with
          | some v => if cj = ci then mq_go (pc + n) ls (v :: t) h else none
          | none => none)
        | _ => none)
      | none => none)
    | _ => none)
  | .putfield idx => (match st with
    | v :: .ref a :: t => (match mp_fl mi idx with
      | some (ci, k) => (match h.2.2 a with
        | .inr (cj, fs) => if cj = ci ∧ k < fs.length ∧ mp_pf mi idx = true ∧ mq_okv (mp_ft ci k) v = true then mq_go (pc + n) ls t (mq_wr h a (.inr (cj, fs.set k v))) else none
        | _ => none)
      | none => none)
    | _ => none)
  | .iaload => (match mq_ari st h.2.2 0 5 with
    | some (x, t) => mq_go (pc + n) ls (.int x :: t) h
    | none => none)
  | .baload => (match mq_ari st h.2.2 1 6 with
    | some (x, t) => mq_go (pc + n) ls (.int x :: t) h
    | none => none)
  | .caload => (match mq_ari st h.2.2 2 2 with
    | some (x, t) => mq_go (pc + n) ls (.int x :: t) h
    | none => none)
  | .laload => (match st with
    | .int i :: .ref a :: t => (match h.2.2 a with
      | .inl (k, m, .inr (.inl g)) => if k = 3 ∧ mq_in i m = true then mq_go (pc + n) ls (.long (g i.toNatClampNeg) :: t) h else none
      | _ => none)
    | _ => none)
  | .aaload => (match st with
    | .int i :: .ref a :: t => (match h.2.2 a with
      | .inl (k, m, .inr (.inr (.inr (.inr g)))) => if k = 4 ∧ mq_in i m = true then mq_go (pc + n) ls (va_rf (g i.toNatClampNeg) :: t) h else none
      | _ => none)
    | _ => none)
  | .iastore => (match mq_awi st h 0 (fun x => x) with
    | some (h', t) => mq_go (pc + n) ls t h'
    | none => none)
  | .bastore => (match mq_awi st h 1 (fun x => x &&& 1) with
    | some (h', t) => mq_go (pc + n) ls t h'
    | none => none)
  | .castore => (match mq_awi st h 2 (fun x => x.toUInt32.toUInt16.toUInt32.toInt32) with
    | some (h', t) => mq_go (pc + n) ls t h'
    | none => none)
  | .lastore => (match st with
    | .long x :: .int i :: .ref a :: t => (match h.2.2 a with
      | .inl (k, m, .inr (.inl g)) => if k = 3 ∧ mq_in i m = true then mq_go (pc + n) ls t (mq_wr h a (.inl (k, m, .inr (.inl (vp_updL g i.toNatClampNeg x))))) else none
      | _ => none)
    | _ => none)
  | .aastore => (match st with
    | .ref v :: .int i :: .ref a :: t => (match h.2.2 a, h.2.2 v with
      | .inl (k, m, .inr (.inr (.inr (.inr g)))), .inr (cj, _) => if k = 4 ∧ cj = mp_kt ∧ mq_in i m = true then mq_go (pc + n) ls t (mq_wr h a (.inl (k, m, .inr (.inr (.inr (.inr (va_up g i.toNatClampNeg (some v)))))))) else none
      | _, _ => none)
    | .null :: .int i :: .ref a :: t => (match h.2.2 a with
      | .inl (k, m, .inr (.inr (.inr (.inr g)))) => if k = 4 ∧ mq_in i m = true then mq_go (pc + n) ls t (mq_wr h a (.inl (k, m, .inr (.inr (.inr (.inr (va_up g i.toNatClampNeg none))))))) else none
      | _ => none)
    | _ => none)
  | .arraylength => (match st with
    | .ref a :: t => (match h.2.2 a with
      | .inl (k, m, _) => if k < 7 then mq_go (pc + n) ls (.int (Int32.ofNat m) :: t) h else none
      | _ => none)
    | _ => none)
  | .new idx => (match mp_nw mi idx with
    | some (ci, w) => if ci = 50 then (if st = [] then some (.inr (.inr none)) else none) else mq_go (pc + n) ls (.ref h.1 :: st) (mq_mk h w (.inr (ci, mp_df ci)))
    | none => none)
  | .newarray ty => (match st with
    | .int m :: t => (match mq_arn ty with
      | some (k, f) => if ¬ m < 0 ∧ m.toNatClampNeg ≤ 65536 then mq_go (pc + n) ls (.ref h.1 :: t) (mq_mk h m.toNatClampNeg (.inl (k, f m.toNatClampNeg))) else none
      | none => none)
    | _ => none)
  | .anewarray idx => (match st with
    | .int m :: t => if mp_an mi idx = true ∧ ¬ m < 0 ∧ m.toNatClampNeg ≤ 65536 then mq_go (pc + n) ls (.ref h.1 :: t) (mq_mk h m.toNatClampNeg (.inl (4, m.toNatClampNeg, .inr (.inr (.inr (.inr (fun _ => none))))))) else none
    | _ => none)
  | .invokevirtual idx => mq_call mi idx [0] st h
  | .invokestatic idx => mq_call mi idx [1, 5] st h
  | .invokespecial idx => mq_call mi idx [2, 3, 6] st h
  | .ireturn => (match st with
    | [.int v] => (match mp_rt mi with
      | some ty => if narrow ty (.int v) = .int v then some (.inr (.inr (some (some (.int v))))) else none
      | none => none)
    | _ => none)
  | .lreturn => (match st with
    | [.long v] => if mp_rt mi = some .long then some (.inr (.inr (some (some (.long v))))) else none
    | _ => none)
  | .areturn => (match st with
    | [.ref v] => if mp_ra mi = true then some (.inr (.inr (some (some (.ref v))))) else none
    | [.null] => if mp_ra mi = true then some (.inr (.inr (some (some .null)))) else none
    | _ => none)
  | .return_ => (match st with
    | [] => if mp_rt mi = none then some (.inr (.inr (some none))) else none
    | _ => none)
  | i => (match st with
    | [] => none
    | y :: t => (match mq_un i y with
      | some v => mq_go (pc + n) ls (v :: t) h
      | none => (match t with
        | [] => none
        | x :: t' => (match mq_bin i x y with
          | some v => mq_go (pc + n) ls (v :: t') h
          | none => none))))
def mq_st (mi pc : Nat) (ls : mq_L) (st : List Value) (h : mq_H) : Option mq_R := match mp_ins mi pc with
  | some (i, n) => mq_do mi pc i n ls st h
  | none => none
def mq_al : List Value → mq_L
  | [] => []
  | v :: t => if v.category = 2 then some v :: none :: mq_al t else some v :: mq_al t
def mq_en (as : List Value) (n : Nat) : mq_L := mq_al as ++ List.replicate (n - (mq_al as).length) none
/-- String.checkIndex (298) of an index within: the machine's part 29b has it as one step -/
def mq_ck (mi pc d : Nat) (ls : mq_L) (st : List Value) (h : mq_H) : Option (Option (Option Value) × mq_H) := if mi = 298 ∧ pc = 0 ∧ 1 ≤ d ∧ st = [] then (match ls with
  | [some (.int x), some (.int y)] => if ¬ x < 0 ∧ x < y then some (some none, h) else none
  | _ => none) else none
/-- n steps of fuel, d calls deep -/
def mq_ex : Nat → Nat → Nat → Nat → mq_L → List Value → mq_H → Option (Option (Option Value) × mq_H)
  | 0, _, _, _, _, _, _ => none
  | n + 1, d, mi, pc, ls, st, h => match mq_st mi pc ls st h with
    | none => mq_ck mi pc d ls st h
    | some (.inl (pc', ls', st', h')) => mq_ex n d mi pc' ls' st' h'
    | some (.inr (.inl (mj, as, rest))) => (match d with
      | 0 => none
      | d' + 1 => if (mq_al as).length ≤ mp_mx mj then (match mq_ex n d' mj 0 (mq_en as (mp_mx mj)) [] h with
        | some (some v, h1) => mq_ex n (d' + 1) mi (pc + 3) ls (v.toList ++ rest) h1
        | some (none, h1) => (match mp_hd mi pc with
          | some (pc2, k) => if k < ls.length then mq_ex n (d' + 1) mi pc2 ((mq_s1 ls k .null).set k none) [] h1 else none
          | none => none)
        | none => none) else none)
    | some (.inr (.inr (some v))) => some (some v, h)
    | some (.inr (.inr none)) => if 6 ≤ d then some (none, (h.1 + 1, h.2.1 + 6, h.2.2)) else none
theorem mq_ck_no {mi : Nat} (hm : ¬ mi = 298) (pc d : Nat) (ls : mq_L) (st : List Value) (h : mq_H) : mq_ck mi pc d ls st h = none := if_neg (fun q => hm q.1)
theorem mq_ck_yes {mi pc d : Nat} {ls : mq_L} {st : List Value} {h h' : mq_H} {o : Option (Option Value)} (he : mq_ck mi pc d ls st h = some (o, h')) : o = some none ∧ h' = h ∧ mi = 298 ∧ 1 ≤ d ∧ ∃ x y : Int32, ls = [some (.int x), some (.int y)] ∧ ¬ x < 0 ∧ x < y := by
  unfold mq_ck at he
  split at he
  next q =>
    split at he
    next x y =>
      split at he
      next q2 => cases he; exact ⟨rfl, rfl, q.1, q.2.2.1, x, y, rfl, q2.1, q2.2⟩
      next => cases he
    next => cases he
  next => cases he
theorem mq_no298 (pc : Nat) : mp_ins 298 pc = none := by
  have h : mp_cd.getD 298 [] = [] := by decide +kernel
  unfold mp_ins
  rw [h]
  rfl
theorem mq_en2 {as : List Value} {x y : Int32} (hal : (mq_al as).length ≤ 2) (h : mq_en as 2 = [some (.int x), some (.int y)]) : as = [.int x, .int y] := by
  match as with
  | [] => simp [mq_en, mq_al] at h
  | [v] => cases v <;> simp [mq_en, mq_al, Value.category] at h
  | [v, w] => cases v <;> cases w <;> simp [mq_en, mq_al, Value.category] at h hal ⊢ <;> first | exact h | omega
  | v :: w :: z :: t => cases v <;> cases w <;> cases z <;> simp [mq_al, Value.category] at hal <;> omega
