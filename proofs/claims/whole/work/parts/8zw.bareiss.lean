/-! ROWS: exact division, the identities -/
/-- two steps: what the first pivot divides -/
theorem bz_2 (a p q r s u v w z : Int) : (a * p - u * w) * (a * s - v * z) - (a * r - v * w) * (a * q - u * z) = a * (a * (p * s - q * r) - (u * (w * s - z * r) - v * (w * q - z * p))) := by grind
def d3 (a b c d e f g h i : Int) : Int := a * (e * i - f * h) - b * (d * i - f * g) + c * (d * h - e * g)
/-- three rows less a product: the square divides -/
theorem bz_3 (a p1 p2 p3 q1 q2 q3 r1 r2 r3 u1 u2 u3 v1 v2 v3 : Int) : d3 (a * p1 - u1 * v1) (a * p2 - u1 * v2) (a * p3 - u1 * v3) (a * q1 - u2 * v1) (a * q2 - u2 * v2) (a * q3 - u2 * v3) (a * r1 - u3 * v1) (a * r2 - u3 * v2) (a * r3 - u3 * v3) = a * a * (a * d3 p1 p2 p3 q1 q2 q3 r1 r2 r3 - (v1 * d3 u1 p2 p3 u2 q2 q3 u3 r2 r3 + v2 * d3 p1 u1 p3 q1 u2 q3 r1 u3 r3 + v3 * d3 p1 p2 u1 q1 q2 u2 r1 r2 u3)) := by
  unfold d3
  grind
