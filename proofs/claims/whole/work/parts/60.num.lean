/-! NUMBERS: ints and longs made of naturals (zn, zln) and of whole numbers (zi, zli) -/
def zn (n : Nat) : Int32 := Int32.ofNat n
def zi (z : Int) : Int32 := Int32.ofInt z
def zln (n : Nat) : Int64 := Int64.ofNat n
def zli (z : Int) : Int64 := Int64.ofInt z
theorem zn_lit (n : Nat) : (no_index (OfNat.ofNat n : Int32)) = zn n := rfl
theorem zln_lit (n : Nat) : (no_index (OfNat.ofNat n : Int64)) = zln n := rfl
theorem zn_add (a b : Nat) : zn a + zn b = zn (a + b) := (Int32.ofNat_add a b).symm
theorem zn_mul (a b : Nat) : zn a * zn b = zn (a * b) := (Int32.ofNat_mul a b).symm
theorem zn_sub (a b : Nat) (h : b ≤ a) : zn a - zn b = zn (a - b) := (Int32.ofNat_sub a b h).symm
theorem zn_addneg (a b : Nat) (h : b ≤ a) : zn a + -zn b = zn (a - b) := by
  rw [← zn_sub a b h, Int32.sub_eq_add_neg]
theorem zn_lt (a b : Nat) (ha : a < 2147483648) (hb : b < 2147483648) : (zn a < zn b) = (a < b) := propext (Int32.ofNat_lt_iff_lt ha hb)
theorem zn_le (a b : Nat) (ha : a < 2147483648) (hb : b < 2147483648) : (zn a ≤ zn b) = (a ≤ b) := propext (Int32.ofNat_le_iff_le ha hb)
theorem zn_toInt (a : Nat) (ha : a < 2147483648) : (zn a).toInt = a := Int32.toInt_ofNat_of_lt ha
theorem zn_eq (a b : Nat) (ha : a < 2147483648) (hb : b < 2147483648) : (zn a = zn b) = (a = b) := by
  apply propext
  constructor
  · intro e
    have := congrArg Int32.toInt e
    rw [zn_toInt a ha, zn_toInt b hb] at this
    omega
  · intro e; rw [e]
theorem zn_clamp (a : Nat) (ha : a < 2147483648) : (zn a).toNatClampNeg = a := Int32.toNatClampNeg_ofNat_of_lt ha
theorem zn_in (a n : Nat) (ha : a < 2147483648) : mq_in (zn a) n = decide (a < n) := by
  unfold mq_in
  rw [zn_clamp a ha]
  have : ¬ zn a < 0 := by
    have h := zn_lt a 0 ha (by omega)
    rw [show (0 : Int32) = zn 0 from rfl, h]
    omega
  simp [this]
theorem zn_long (a : Nat) (ha : a < 2147483648) : (zn a).toInt64 = zln a := by
  apply Int64.toInt_inj.mp
  rw [Int32.toInt_toInt64, zn_toInt a ha]
  exact (Int64.toInt_ofNat_of_lt (by omega)).symm
theorem zln_add (a b : Nat) : zln a + zln b = zln (a + b) := (Int64.ofNat_add a b).symm
theorem zln_mul (a b : Nat) : zln a * zln b = zln (a * b) := (Int64.ofNat_mul a b).symm
theorem zln_sub (a b : Nat) (h : b ≤ a) : zln a - zln b = zln (a - b) := (Int64.ofNat_sub a b h).symm
theorem zln_toInt (a : Nat) (ha : a < 9223372036854775808) : (zln a).toInt = a := Int64.toInt_ofNat_of_lt ha
theorem zln_lt (a b : Nat) (ha : a < 9223372036854775808) (hb : b < 9223372036854775808) : (zln a < zln b) = (a < b) := propext (Int64.ofNat_lt_iff_lt ha hb)
theorem zln_le (a b : Nat) (ha : a < 9223372036854775808) (hb : b < 9223372036854775808) : (zln a ≤ zln b) = (a ≤ b) := propext (Int64.ofNat_le_iff_le ha hb)
theorem zln_eq (a b : Nat) (ha : a < 9223372036854775808) (hb : b < 9223372036854775808) : (zln a = zln b) = (a = b) := by
  apply propext
  constructor
  · intro e
    have := congrArg Int64.toInt e
    rw [zln_toInt a ha, zln_toInt b hb] at this
    omega
  · intro e; rw [e]
theorem zln_int (a : Nat) (ha : a < 2147483648) : (zln a).toInt32 = zn a := by
  rw [← zn_long a ha]
  exact Int32.toInt32_toInt64 _
theorem zi_lit (n : Nat) : (no_index (OfNat.ofNat n : Int32)) = zi (OfNat.ofNat n) := (Int32.ofInt_eq_ofNat (n := n)).symm
theorem zi_add (a b : Int) : zi a + zi b = zi (a + b) := (Int32.ofInt_add a b).symm
theorem zi_mul (a b : Int) : zi a * zi b = zi (a * b) := (Int32.ofInt_mul a b).symm
theorem zi_sub (a b : Int) : zi a - zi b = zi (a - b) := (Int32.ofInt_sub a b).symm
theorem zi_neg (a : Int) : -zi a = zi (-a) := (Int32.ofInt_neg a).symm
theorem zi_nat (a : Nat) : zn a = zi (a : Int) := (Int32.ofInt_eq_ofNat (n := a)).symm
theorem zi_back (x : Int32) : zi x.toInt = x := Int32.ofInt_toInt x
theorem zi_toInt (a : Int) (h1 : -2147483648 ≤ a) (h2 : a < 2147483648) : (zi a).toInt = a := Int32.toInt_ofInt_of_le h1 h2
theorem zi_lt (a b : Int) (ha : -2147483648 ≤ a) (ha2 : a < 2147483648) (hb : -2147483648 ≤ b) (hb2 : b < 2147483648) : (zi a < zi b) = (a < b) := by
  rw [Int32.lt_iff_toInt_lt, zi_toInt a ha ha2, zi_toInt b hb hb2]
theorem zi_le (a b : Int) (ha : -2147483648 ≤ a) (ha2 : a < 2147483648) (hb : -2147483648 ≤ b) (hb2 : b < 2147483648) : (zi a ≤ zi b) = (a ≤ b) := by
  rw [Int32.le_iff_toInt_le, zi_toInt a ha ha2, zi_toInt b hb hb2]
theorem zi_eq (a b : Int) (ha : -2147483648 ≤ a) (ha2 : a < 2147483648) (hb : -2147483648 ≤ b) (hb2 : b < 2147483648) : (zi a = zi b) = (a = b) := by
  rw [← Int32.toInt_inj, zi_toInt a ha ha2, zi_toInt b hb hb2]
theorem zi_clamp (a : Int) (h1 : -2147483648 ≤ a) (h2 : a < 2147483648) : (zi a).toNatClampNeg = a.toNat := by
  rw [← Int32.toNat_toInt, zi_toInt a h1 h2]
theorem zi_long (a : Int) (h1 : -2147483648 ≤ a) (h2 : a < 2147483648) : (zi a).toInt64 = zli a := by
  apply Int64.toInt_inj.mp
  rw [Int32.toInt_toInt64, zi_toInt a h1 h2]
  exact (Int64.toInt_ofInt_of_le (by omega) (by omega)).symm
theorem zli_lit (n : Nat) : (no_index (OfNat.ofNat n : Int64)) = zli (OfNat.ofNat n) := (Int64.ofInt_eq_ofNat (n := n)).symm
theorem zli_add (a b : Int) : zli a + zli b = zli (a + b) := (Int64.ofInt_add a b).symm
theorem zli_mul (a b : Int) : zli a * zli b = zli (a * b) := (Int64.ofInt_mul a b).symm
theorem zli_sub (a b : Int) : zli a - zli b = zli (a - b) := (Int64.ofInt_sub a b).symm
theorem zli_neg (a : Int) : -zli a = zli (-a) := (Int64.ofInt_neg a).symm
theorem zli_nat (a : Nat) : zln a = zli (a : Int) := (Int64.ofInt_eq_ofNat (n := a)).symm
theorem zli_toInt (a : Int) (h1 : -9223372036854775808 ≤ a) (h2 : a < 9223372036854775808) : (zli a).toInt = a := Int64.toInt_ofInt_of_le h1 h2
theorem zli_lt (a b : Int) (ha : -9223372036854775808 ≤ a) (ha2 : a < 9223372036854775808) (hb : -9223372036854775808 ≤ b) (hb2 : b < 9223372036854775808) : (zli a < zli b) = (a < b) := by
  rw [Int64.lt_iff_toInt_lt, zli_toInt a ha ha2, zli_toInt b hb hb2]
theorem zli_le (a b : Int) (ha : -9223372036854775808 ≤ a) (ha2 : a < 9223372036854775808) (hb : -9223372036854775808 ≤ b) (hb2 : b < 9223372036854775808) : (zli a ≤ zli b) = (a ≤ b) := by
  rw [Int64.le_iff_toInt_le, zli_toInt a ha ha2, zli_toInt b hb hb2]
theorem zli_eq (a b : Int) (ha : -9223372036854775808 ≤ a) (ha2 : a < 9223372036854775808) (hb : -9223372036854775808 ≤ b) (hb2 : b < 9223372036854775808) : (zli a = zli b) = (a = b) := by
  rw [← Int64.toInt_inj, zli_toInt a ha ha2, zli_toInt b hb hb2]
theorem zi_div (a b : Int) (ha : -2147483648 < a) (ha2 : a < 2147483648) (hb : -2147483648 < b) (hb2 : b < 2147483648) : zi a / zi b = zi (a.tdiv b) := by
  apply Int32.toInt_inj.mp
  have h0 : zi a ≠ Int32.minValue := by
    intro e
    have := congrArg Int32.toInt e
    rw [zi_toInt a (by omega) ha2] at this
    have h3 : Int32.minValue.toInt = -2147483648 := by decide
    omega
  rw [Int32.toInt_div_of_ne_left _ _ h0, zi_toInt a (by omega) ha2, zi_toInt b (by omega) hb2]
  have h5 : (a.tdiv b).natAbs ≤ a.natAbs := by rw [Int.natAbs_tdiv]; exact Nat.div_le_self _ _
  exact (zi_toInt _ (by omega) (by omega)).symm
theorem zi_rem (a b : Int) (ha : -2147483648 < a) (ha2 : a < 2147483648) (hb : -2147483648 < b) (hb2 : b < 2147483648) : zi a - zi a / zi b * zi b = zi (a.tmod b) := by
  rw [zi_div a b ha ha2 hb hb2, zi_mul, zi_sub, Int.tmod_def, Int.mul_comm]
theorem zn_div (a b : Nat) (ha : a < 2147483648) (hb : b < 2147483648) : zn a / zn b = zn (a / b) := (Int32.ofNat_div ha hb).symm
theorem zn_rem (a b : Nat) (ha : a < 2147483648) (hb : b < 2147483648) : zn a - zn a / zn b * zn b = zn (a % b) := by
  rw [zn_div a b ha hb, zn_mul, zn_sub _ _ (Nat.div_mul_le_self a b), Nat.mod_eq_sub_div_mul]
theorem mq_dl_int (x : Int32) : mq_dl (some (.int x)) = some (.int x) := rfl
theorem mq_dl_ref (x : Nat) : mq_dl (some (.ref x)) = some (.ref x) := rfl
theorem mq_dl_null : mq_dl (some .null) = some .null := rfl
theorem mq_dl_none : mq_dl none = none := rfl
theorem zb_1 : (1 : Int32) &&& 1 = 1 := by decide
theorem zb_0 : (0 : Int32) &&& 1 = 0 := by decide
theorem zb_n1 : zn 1 &&& 1 = zn 1 := by decide
theorem zb_n0 : zn 0 &&& 1 = zn 0 := by decide
theorem z_10 : ((1 : Int32) = 0) = False := eq_false (by decide)
theorem z_01 : ((0 : Int32) = 1) = False := eq_false (by decide)
theorem zb_and1 (x : Int32) (h : x = 0 ∨ x = 1) : x &&& 1 = x := by
  rcases h with h | h <;> subst h <;> decide
/-! SUMS AND SEARCHES over a run of naturals -/
def zsum (f : Nat → Int) (k : Nat) : Nat → Int
  | 0 => 0
  | r + 1 => f k + zsum f (k + 1) r
def zany (p : Nat → Bool) (k : Nat) : Nat → Bool
  | 0 => false
  | r + 1 => p k || zany p (k + 1) r
def zall (p : Nat → Bool) (k : Nat) : Nat → Bool
  | 0 => true
  | r + 1 => p k && zall p (k + 1) r
def zfst {α : Type} (p : Nat → Option α) (k : Nat) : Nat → Option α
  | 0 => none
  | r + 1 => (match p k with
    | some x => some x
    | none => zfst p (k + 1) r)
theorem zany_iff (p : Nat → Bool) : ∀ (r k : Nat), zany p k r = true ↔ ∃ i, k ≤ i ∧ i < k + r ∧ p i = true
  | 0, k => by
    simp only [zany]
    constructor
    · intro h; cases h
    · rintro ⟨i, h1, h2, _⟩; omega
  | r + 1, k => by
    simp only [zany, Bool.or_eq_true, zany_iff p r (k + 1)]
    constructor
    · rintro (h | ⟨i, h1, h2, h3⟩)
      · exact ⟨k, by omega, by omega, h⟩
      · exact ⟨i, by omega, by omega, h3⟩
    · rintro ⟨i, h1, h2, h3⟩
      by_cases q : i = k
      · left; rw [← q]; exact h3
      · right; exact ⟨i, by omega, by omega, h3⟩
theorem zall_iff (p : Nat → Bool) : ∀ (r k : Nat), zall p k r = true ↔ ∀ i, k ≤ i → i < k + r → p i = true
  | 0, k => by
    simp only [zall, true_iff]
    intro i h1 h2; omega
  | r + 1, k => by
    simp only [zall, Bool.and_eq_true, zall_iff p r (k + 1)]
    constructor
    · rintro ⟨h, h'⟩ i h1 h2
      by_cases q : i = k
      · rw [q]; exact h
      · exact h' i (by omega) (by omega)
    · intro h
      exact ⟨h k (by omega) (by omega), fun i h1 h2 => h i (by omega) (by omega)⟩
theorem zsum_congr {f g : Nat → Int} : ∀ (r k : Nat), (∀ i, k ≤ i → i < k + r → f i = g i) → zsum f k r = zsum g k r
  | 0, _, _ => rfl
  | r + 1, k, h => by
    simp only [zsum]
    rw [h k (by omega) (by omega), zsum_congr r (k + 1) fun i h1 h2 => h i (by omega) (by omega)]
theorem zany_congr {p q : Nat → Bool} : ∀ (r k : Nat), (∀ i, k ≤ i → i < k + r → p i = q i) → zany p k r = zany q k r
  | 0, _, _ => rfl
  | r + 1, k, h => by
    simp only [zany]
    rw [h k (by omega) (by omega), zany_congr r (k + 1) fun i h1 h2 => h i (by omega) (by omega)]
theorem zall_congr {p q : Nat → Bool} : ∀ (r k : Nat), (∀ i, k ≤ i → i < k + r → p i = q i) → zall p k r = zall q k r
  | 0, _, _ => rfl
  | r + 1, k, h => by
    simp only [zall]
    rw [h k (by omega) (by omega), zall_congr r (k + 1) fun i h1 h2 => h i (by omega) (by omega)]
theorem zfst_congr {α : Type} {p q : Nat → Option α} : ∀ (r k : Nat), (∀ i, k ≤ i → i < k + r → p i = q i) → zfst p k r = zfst q k r
  | 0, _, _ => rfl
  | r + 1, k, h => by
    simp only [zfst]
    rw [h k (by omega) (by omega), zfst_congr r (k + 1) fun i h1 h2 => h i (by omega) (by omega)]
