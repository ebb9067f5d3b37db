/-! ROWS: minors of the matrix, as the reference divides -/
def mn1 (O : Nat → Nat → Int) (r c : Nat) : Int := O 0 0 * O r c - O r 0 * O 0 c
def mn2 (O : Nat → Nat → Int) (r c : Nat) : Int := d3 (O 0 0) (O 0 1) (O 0 c) (O 1 0) (O 1 1) (O 1 c) (O r 0) (O r 1) (O r c)
def mn3 (O : Nat → Nat → Int) (r c : Nat) : Int := d4 (O 0 0) (O 0 1) (O 0 2) (O 0 c) (O 1 0) (O 1 1) (O 1 2) (O 1 c) (O 2 0) (O 2 1) (O 2 2) (O 2 c) (O r 0) (O r 1) (O r 2) (O r c)
theorem mn_2 (O : Nat → Nat → Int) (r c : Nat) : mn1 O r c * mn1 O 1 1 - mn1 O r 1 * mn1 O 1 c = O 0 0 * mn2 O r c := by
  unfold mn1 mn2 d3
  grind
theorem mn_3 (O : Nat → Nat → Int) (r c : Nat) : mn2 O r c * mn2 O 2 2 - mn2 O r 2 * mn2 O 2 c = mn1 O 1 1 * mn3 O r c := by
  unfold mn1 mn2 mn3 d4 d3
  grind
