/-! ROWS: exact division, the identities -/
/-- two steps: what the first pivot divides -/
theorem bz_2 (a p q r s u v w z : Int) : (a * p - u * w) * (a * s - v * z) - (a * r - v * w) * (a * q - u * z) = a * (a * (p * s - q * r) - (u * (w * s - z * r) - v * (w * q - z * p))) := by grind
def d3 (a b c d e f g h i : Int) : Int := a * (e * i - f * h) - b * (d * i - f * g) + c * (d * h - e * g)
/-- three rows less a product: the square divides -/
theorem bz_3 (a p1 p2 p3 q1 q2 q3 r1 r2 r3 u1 u2 u3 v1 v2 v3 : Int) : d3 (a * p1 - u1 * v1) (a * p2 - u1 * v2) (a * p3 - u1 * v3) (a * q1 - u2 * v1) (a * q2 - u2 * v2) (a * q3 - u2 * v3) (a * r1 - u3 * v1) (a * r2 - u3 * v2) (a * r3 - u3 * v3) = a * a * (a * d3 p1 p2 p3 q1 q2 q3 r1 r2 r3 - (v1 * d3 u1 p2 p3 u2 q2 q3 u3 r2 r3 + v2 * d3 p1 u1 p3 q1 u2 q3 r1 u3 r3 + v3 * d3 p1 p2 u1 q1 q2 u2 r1 r2 u3)) := by
  unfold d3
  grind
def d4 (a b c d e f g h i j k l m n o p : Int) : Int := a * d3 f g h j k l n o p - b * d3 e g h i k l m o p + c * d3 e f h i j l m n p - d * d3 e f g i j k m n o
theorem bz_4 (a p1 p2 p3 p4 q1 q2 q3 q4 r1 r2 r3 r4 s1 s2 s3 s4 u1 u2 u3 u4 v1 v2 v3 v4 : Int) : d4 (a * p1 - u1 * v1) (a * p2 - u1 * v2) (a * p3 - u1 * v3) (a * p4 - u1 * v4) (a * q1 - u2 * v1) (a * q2 - u2 * v2) (a * q3 - u2 * v3) (a * q4 - u2 * v4) (a * r1 - u3 * v1) (a * r2 - u3 * v2) (a * r3 - u3 * v3) (a * r4 - u3 * v4) (a * s1 - u4 * v1) (a * s2 - u4 * v2) (a * s3 - u4 * v3) (a * s4 - u4 * v4) = a * a * a * (a * d4 p1 p2 p3 p4 q1 q2 q3 q4 r1 r2 r3 r4 s1 s2 s3 s4 - (v1 * d4 u1 p2 p3 p4 u2 q2 q3 q4 u3 r2 r3 r4 u4 s2 s3 s4 + v2 * d4 p1 u1 p3 p4 q1 u2 q3 q4 r1 u3 r3 r4 s1 u4 s3 s4 + v3 * d4 p1 p2 u1 p4 q1 q2 u2 q4 r1 r2 u3 r4 s1 s2 u4 s4 + v4 * d4 p1 p2 p3 u1 q1 q2 q3 u2 r1 r2 r3 u3 s1 s2 s3 u4)) := by
  unfold d4 d3
  grind
