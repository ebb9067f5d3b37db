/-! ROWS: minors of five, by those of three -/
def dd (O : Nat → Nat → Int) (a b c : Nat) : Int := d3 (O 0 a) (O 0 b) (O 0 c) (O 1 a) (O 1 b) (O 1 c) (O 2 a) (O 2 b) (O 2 c)
theorem pl_0 (O : Nat → Nat → Int) (c : Nat) : dd O 0 1 2 * dd O 0 3 c - dd O 0 1 3 * dd O 0 2 c + dd O 0 1 c * dd O 0 2 3 = 0 := by
  unfold dd d3
  grind
theorem pl_1 (O : Nat → Nat → Int) (c : Nat) : dd O 0 1 2 * dd O 1 3 c - dd O 0 1 3 * dd O 1 2 c + dd O 0 1 c * dd O 1 2 3 = 0 := by
  unfold dd d3
  grind
theorem pl_2 (O : Nat → Nat → Int) (c : Nat) : dd O 0 1 2 * dd O 2 3 c - dd O 0 2 3 * dd O 1 2 c + dd O 0 2 c * dd O 1 2 3 = 0 := by
  unfold dd d3
  grind
theorem mn3_dd (O : Nat → Nat → Int) (r c : Nat) : mn3 O r c = O r c * dd O 0 1 2 - O r 2 * dd O 0 1 c + O r 1 * dd O 0 2 c - O r 0 * dd O 1 2 c := by
  unfold mn3 dd d4 d3
  grind
def q4 (O : Nat → Nat → Int) (a b c d : Nat) : Int := O 3 d * dd O a b c - O 3 c * dd O a b d + O 3 b * dd O a c d - O 3 a * dd O b c d
def mn4 (O : Nat → Nat → Int) (r c : Nat) : Int := O r c * q4 O 0 1 2 3 - O r 3 * q4 O 0 1 2 c + O r 2 * q4 O 0 1 3 c - O r 1 * q4 O 0 2 3 c + O r 0 * q4 O 1 2 3 c
theorem mn_4 (O : Nat → Nat → Int) (r c : Nat) : mn3 O r c * mn3 O 3 3 - mn3 O r 3 * mn3 O 3 c = dd O 0 1 2 * mn4 O r c := by
  have h0 := pl_0 O c
  have h1 := pl_1 O c
  have h2 := pl_2 O c
  unfold mn4 q4
  rw [mn3_dd, mn3_dd, mn3_dd, mn3_dd]
  generalize dd O 0 1 2 = a1 at *
  generalize dd O 0 1 3 = a2 at *
  generalize dd O 0 1 c = a3 at *
  generalize dd O 0 2 3 = a4 at *
  generalize dd O 0 2 c = a5 at *
  generalize dd O 0 3 c = a6 at *
  generalize dd O 1 2 3 = a7 at *
  generalize dd O 1 2 c = a8 at *
  generalize dd O 1 3 c = a9 at *
  generalize dd O 2 3 c = b1 at *
  grind
