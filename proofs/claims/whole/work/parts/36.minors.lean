/-! elimination in whole numbers: each division leaves no rest (minors of the rows) -/
def d2 (a : Nat → Nat → Int) (u v : Nat) : Int := a 0 u * a 1 v - a 0 v * a 1 u
def d3 (a : Nat → Nat → Int) (u v w : Nat) : Int := a 2 w * d2 a u v - a 2 v * d2 a u w + a 2 u * d2 a v w
def d4 (a : Nat → Nat → Int) (u v w z : Nat) : Int := a 3 z * d3 a u v w - a 3 w * d3 a u v z + a 3 v * d3 a u w z - a 3 u * d3 a v w z
theorem d2_s (a : Nat → Nat → Int) (u v : Nat) : d2 a u v = -d2 a v u := by unfold d2; grind
theorem d2_0 (a : Nat → Nat → Int) (u : Nat) : d2 a u u = 0 := by unfold d2; grind
theorem d3_s1 (a : Nat → Nat → Int) (u v w : Nat) : d3 a v u w = -d3 a u v w := by unfold d3 d2; grind
theorem d3_s2 (a : Nat → Nat → Int) (u v w : Nat) : d3 a u w v = -d3 a u v w := by unfold d3 d2; grind
theorem d4_s1 (a : Nat → Nat → Int) (u v w z : Nat) : d4 a v u w z = -d4 a u v w z := by unfold d4 d3 d2; grind
theorem d4_s2 (a : Nat → Nat → Int) (u v w z : Nat) : d4 a u w v z = -d4 a u v w z := by unfold d4 d3 d2; grind
theorem d4_s3 (a : Nat → Nat → Int) (u v w z : Nat) : d4 a u v z w = -d4 a u v w z := by unfold d4 d3 d2; grind
theorem pl2 (a : Nat → Nat → Int) (u v x y : Nat) : d2 a u v * d2 a x y = d2 a x v * d2 a u y - d2 a y v * d2 a u x := by unfold d2; grind
theorem pl3 (a : Nat → Nat → Int) (u v x y s : Nat) : d3 a u v s * d3 a x y s = d3 a x v s * d3 a u y s - d3 a y v s * d3 a u x s := by unfold d3 d2; grind
theorem pl4w (u0 u1 u2 u3 v0 v1 v2 v3 x0 x1 x2 x3 y0 y1 y2 y3 p01 p02 p03 p12 p13 p23 : Int) (hp : p01 * p23 - p02 * p13 + p03 * p12 = 0) :
    (p23 * (u0 * v1 - u1 * v0) - p13 * (u0 * v2 - u2 * v0) + p12 * (u0 * v3 - u3 * v0) + p03 * (u1 * v2 - u2 * v1) - p02 * (u1 * v3 - u3 * v1) + p01 * (u2 * v3 - u3 * v2)) *
    (p23 * (x0 * y1 - x1 * y0) - p13 * (x0 * y2 - x2 * y0) + p12 * (x0 * y3 - x3 * y0) + p03 * (x1 * y2 - x2 * y1) - p02 * (x1 * y3 - x3 * y1) + p01 * (x2 * y3 - x3 * y2)) =
    (p23 * (x0 * v1 - x1 * v0) - p13 * (x0 * v2 - x2 * v0) + p12 * (x0 * v3 - x3 * v0) + p03 * (x1 * v2 - x2 * v1) - p02 * (x1 * v3 - x3 * v1) + p01 * (x2 * v3 - x3 * v2)) *
    (p23 * (u0 * y1 - u1 * y0) - p13 * (u0 * y2 - u2 * y0) + p12 * (u0 * y3 - u3 * y0) + p03 * (u1 * y2 - u2 * y1) - p02 * (u1 * y3 - u3 * y1) + p01 * (u2 * y3 - u3 * y2)) -
    (p23 * (y0 * v1 - y1 * v0) - p13 * (y0 * v2 - y2 * v0) + p12 * (y0 * v3 - y3 * v0) + p03 * (y1 * v2 - y2 * v1) - p02 * (y1 * v3 - y3 * v1) + p01 * (y2 * v3 - y3 * v2)) *
    (p23 * (u0 * x1 - u1 * x0) - p13 * (u0 * x2 - u2 * x0) + p12 * (u0 * x3 - u3 * x0) + p03 * (u1 * x2 - u2 * x1) - p02 * (u1 * x3 - u3 * x1) + p01 * (u2 * x3 - u3 * x2)) := by
  grind
theorem d4_w (a : Nat → Nat → Int) (u v s t : Nat) : d4 a u v s t =
    (a 2 s * a 3 t - a 3 s * a 2 t) * (a 0 u * a 1 v - a 1 u * a 0 v) - (a 1 s * a 3 t - a 3 s * a 1 t) * (a 0 u * a 2 v - a 2 u * a 0 v) + (a 1 s * a 2 t - a 2 s * a 1 t) * (a 0 u * a 3 v - a 3 u * a 0 v) + (a 0 s * a 3 t - a 3 s * a 0 t) * (a 1 u * a 2 v - a 2 u * a 1 v) - (a 0 s * a 2 t - a 2 s * a 0 t) * (a 1 u * a 3 v - a 3 u * a 1 v) + (a 0 s * a 1 t - a 1 s * a 0 t) * (a 2 u * a 3 v - a 3 u * a 2 v) := by
  unfold d4 d3 d2; grind
theorem pl4 (a : Nat → Nat → Int) (u v x y s t : Nat) : d4 a u v s t * d4 a x y s t = d4 a x v s t * d4 a u y s t - d4 a y v s t * d4 a u x s t := by
  simp only [d4_w]
  exact pl4w _ _ _ _ _ _ _ _ _ _ _ _ _ _ _ _ _ _ _ _ _ _ (by grind)
/-! a step: with the frozen rows' two columns f, g and their minors h -/
theorem sp1 (p f0 g0 A0 Ak Aq X0 Xk Xq : Int) :
    (p * Ak - A0 * f0) * (p * Xq - X0 * g0) - (p * Xk - X0 * f0) * (p * Aq - A0 * g0)
    = p * ((p * Ak - A0 * f0) * Xq - (p * Aq - A0 * g0) * Xk - X0 * (Ak * g0 - Aq * f0)) := by grind
theorem sp2 (p f0 f1 g0 g1 h01 A0 A1 Ak Aq X0 X1 Xk Xq : Int) (e01 : p * h01 = f0 * g1 - g0 * f1) :
    (p * Ak - A0 * f0 - A1 * f1) * (p * Xq - X0 * g0 - X1 * g1) - (p * Xk - X0 * f0 - X1 * f1) * (p * Aq - A0 * g0 - A1 * g1)
    = p * ((p * Ak - A0 * f0 - A1 * f1) * Xq - (p * Aq - A0 * g0 - A1 * g1) * Xk - X0 * (Ak * g0 - Aq * f0 + A1 * h01) - X1 * (Ak * g1 - Aq * f1 - A0 * h01)) := by grind
theorem sp3 (p f0 f1 f2 g0 g1 g2 h01 h02 h12 A0 A1 A2 Ak Aq X0 X1 X2 Xk Xq : Int) (e01 : p * h01 = f0 * g1 - g0 * f1) (e02 : p * h02 = f0 * g2 - g0 * f2) (e12 : p * h12 = f1 * g2 - g1 * f2) :
    (p * Ak - A0 * f0 - A1 * f1 - A2 * f2) * (p * Xq - X0 * g0 - X1 * g1 - X2 * g2) - (p * Xk - X0 * f0 - X1 * f1 - X2 * f2) * (p * Aq - A0 * g0 - A1 * g1 - A2 * g2)
    = p * ((p * Ak - A0 * f0 - A1 * f1 - A2 * f2) * Xq - (p * Aq - A0 * g0 - A1 * g1 - A2 * g2) * Xk - X0 * (Ak * g0 - Aq * f0 + A1 * h01 + A2 * h02) - X1 * (Ak * g1 - Aq * f1 - A0 * h01 + A2 * h12) - X2 * (Ak * g2 - Aq * f2 - A0 * h02 - A1 * h12)) := by grind
theorem sp4 (p f0 f1 f2 f3 g0 g1 g2 g3 h01 h02 h03 h12 h13 h23 A0 A1 A2 A3 Ak Aq X0 X1 X2 X3 Xk Xq : Int) (e01 : p * h01 = f0 * g1 - g0 * f1) (e02 : p * h02 = f0 * g2 - g0 * f2) (e03 : p * h03 = f0 * g3 - g0 * f3) (e12 : p * h12 = f1 * g2 - g1 * f2) (e13 : p * h13 = f1 * g3 - g1 * f3) (e23 : p * h23 = f2 * g3 - g2 * f3) :
    (p * Ak - A0 * f0 - A1 * f1 - A2 * f2 - A3 * f3) * (p * Xq - X0 * g0 - X1 * g1 - X2 * g2 - X3 * g3) - (p * Xk - X0 * f0 - X1 * f1 - X2 * f2 - X3 * f3) * (p * Aq - A0 * g0 - A1 * g1 - A2 * g2 - A3 * g3)
    = p * ((p * Ak - A0 * f0 - A1 * f1 - A2 * f2 - A3 * f3) * Xq - (p * Aq - A0 * g0 - A1 * g1 - A2 * g2 - A3 * g3) * Xk - X0 * (Ak * g0 - Aq * f0 + A1 * h01 + A2 * h02 + A3 * h03) - X1 * (Ak * g1 - Aq * f1 - A0 * h01 + A2 * h12 + A3 * h13) - X2 * (Ak * g2 - Aq * f2 - A0 * h02 - A1 * h12 + A3 * h23) - X3 * (Ak * g3 - Aq * f3 - A0 * h03 - A1 * h13 - A2 * h23)) := by grind
/-! the frozen rows after k steps: the minor in which the row's own column gives way to another -/
def bF (a : Nat → Nat → Int) : Nat → Nat → Nat → Int
  | 1, _, q => a 0 q
  | 2, 0, q => d2 a q 1
  | 2, _, q => d2 a 0 q
  | 3, 0, q => d3 a q 1 2
  | 3, 1, q => d3 a 0 q 2
  | 3, _, q => d3 a 0 1 q
  | 4, 0, q => d4 a q 1 2 3
  | 4, 1, q => d4 a 0 q 2 3
  | 4, 2, q => d4 a 0 1 q 3
  | 4, _, q => d4 a 0 1 2 q
  | _, _, _ => 0
def bp (a : Nat → Nat → Int) : Nat → Int
  | 0 => 1
  | 1 => a 0 0
  | 2 => d2 a 0 1
  | 3 => d3 a 0 1 2
  | _ => d4 a 0 1 2 3
/-- a row x, cleared by the first k rows -/
def bE (a : Nat → Nat → Int) : Nat → (Nat → Int) → Nat → Int
  | 0, x, q => x q
  | 1, x, q => bp a 1 * x q - x 0 * bF a 1 0 q
  | 2, x, q => bp a 2 * x q - x 0 * bF a 2 0 q - x 1 * bF a 2 1 q
  | 3, x, q => bp a 3 * x q - x 0 * bF a 3 0 q - x 1 * bF a 3 1 q - x 2 * bF a 3 2 q
  | _, x, q => bp a 4 * x q - x 0 * bF a 4 0 q - x 1 * bF a 4 1 q - x 2 * bF a 4 2 q - x 3 * bF a 4 3 q
theorem bp_1 (a : Nat → Nat → Int) : bp a 1 = bE a 0 (a 0) 0 := rfl
theorem bp_2 (a : Nat → Nat → Int) : bp a 2 = bE a 1 (a 1) 1 := by simp only [bp, bE, bF, d2]; grind
theorem bp_3 (a : Nat → Nat → Int) : bp a 3 = bE a 2 (a 2) 2 := by simp only [bp, bE, bF, d3, d2]; grind
theorem bp_4 (a : Nat → Nat → Int) : bp a 4 = bE a 3 (a 3) 3 := by simp only [bp, bE, bF, d4, d3, d2]; grind
theorem bF_2 (a : Nat → Nat → Int) (q : Nat) : bF a 2 1 q = bE a 1 (a 1) q := by simp only [bp, bE, bF, d2]; grind
theorem bF_3 (a : Nat → Nat → Int) (q : Nat) : bF a 3 2 q = bE a 2 (a 2) q := by simp only [bp, bE, bF, d3, d2]; grind
theorem bF_4 (a : Nat → Nat → Int) (q : Nat) : bF a 4 3 q = bE a 3 (a 3) q := by simp only [bp, bE, bF, d4, d3, d2]; grind
theorem bG_20 (a : Nat → Nat → Int) (q : Nat) : bF a 2 0 q = a 1 1 * bF a 1 0 q - a 1 q * bF a 1 0 1 := by simp only [bF, d2]; grind
theorem bG_30 (a : Nat → Nat → Int) (q : Nat) : bF a 3 0 q = a 2 2 * bF a 2 0 q - a 2 q * bF a 2 0 2 + a 2 1 * d2 a 2 q := by simp only [bF, d3, d2]; grind
theorem bG_31 (a : Nat → Nat → Int) (q : Nat) : bF a 3 1 q = a 2 2 * bF a 2 1 q - a 2 q * bF a 2 1 2 - a 2 0 * d2 a 2 q := by simp only [bF, d3, d2]; grind
theorem bG_40 (a : Nat → Nat → Int) (q : Nat) : bF a 4 0 q = a 3 3 * bF a 3 0 q - a 3 q * bF a 3 0 3 + a 3 1 * d3 a 3 q 2 + a 3 2 * d3 a 3 1 q := by simp only [bF, d4, d3, d2]; grind
theorem bG_41 (a : Nat → Nat → Int) (q : Nat) : bF a 4 1 q = a 3 3 * bF a 3 1 q - a 3 q * bF a 3 1 3 - a 3 0 * d3 a 3 q 2 + a 3 2 * d3 a 0 3 q := by simp only [bF, d4, d3, d2]; grind
theorem bG_42 (a : Nat → Nat → Int) (q : Nat) : bF a 4 2 q = a 3 3 * bF a 3 2 q - a 3 q * bF a 3 2 3 - a 3 0 * d3 a 3 1 q - a 3 1 * d3 a 0 3 q := by simp only [bF, d4, d3, d2]; grind
theorem bh_2 (a : Nat → Nat → Int) (k q : Nat) : bp a 2 * d2 a k q = bF a 2 0 k * bF a 2 1 q - bF a 2 0 q * bF a 2 1 k := by simp only [bp, bF]; exact pl2 a 0 1 k q
theorem bh_301 (a : Nat → Nat → Int) (k q : Nat) : bp a 3 * d3 a k q 2 = bF a 3 0 k * bF a 3 1 q - bF a 3 0 q * bF a 3 1 k := by simp only [bp, bF]; exact pl3 a 0 1 k q 2
theorem bh_302 (a : Nat → Nat → Int) (k q : Nat) : bp a 3 * d3 a k 1 q = bF a 3 0 k * bF a 3 2 q - bF a 3 0 q * bF a 3 2 k := by
  simp only [bp, bF]
  have h := pl3 a 0 2 k q 1
  rw [d3_s2 a 0 1 2, d3_s2 a k 1 q, d3_s2 a k 1 2, d3_s2 a 0 1 q, d3_s2 a q 1 2, d3_s2 a 0 1 k] at h
  grind
theorem bh_312 (a : Nat → Nat → Int) (k q : Nat) : bp a 3 * d3 a 0 k q = bF a 3 1 k * bF a 3 2 q - bF a 3 1 q * bF a 3 2 k := by
  simp only [bp, bF]
  have h := pl3 a 1 2 k q 0
  have e : ∀ x y : Nat, d3 a x y 0 = d3 a 0 x y := fun x y => by rw [d3_s2 a x 0 y, d3_s1 a 0 x y]; omega
  rw [e, e, e, e, e, e] at h
  have e1 : d3 a 0 1 k = -d3 a 0 k 1 := d3_s2 a 0 k 1
  have e2 : d3 a 0 1 q = -d3 a 0 q 1 := d3_s2 a 0 q 1
  grind
theorem bh_401 (a : Nat → Nat → Int) (k q : Nat) : bp a 4 * d4 a k q 2 3 = bF a 4 0 k * bF a 4 1 q - bF a 4 0 q * bF a 4 1 k := by
  simp only [bp, bF]
  have h := pl4 a 0 1 k q 2 3
  have e : ∀ x y : Nat, d4 a x y 2 3 = d4 a x y 2 3 := fun x y => by unfold d4 d3 d2; grind
  rw [e, e, e, e, e, e] at h
  grind
theorem bh_402 (a : Nat → Nat → Int) (k q : Nat) : bp a 4 * d4 a k 1 q 3 = bF a 4 0 k * bF a 4 2 q - bF a 4 0 q * bF a 4 2 k := by
  simp only [bp, bF]
  have h := pl4 a 0 2 k q 1 3
  have e : ∀ x y : Nat, d4 a x y 1 3 = -d4 a x 1 y 3 := fun x y => by unfold d4 d3 d2; grind
  rw [e, e, e, e, e, e] at h
  grind
theorem bh_403 (a : Nat → Nat → Int) (k q : Nat) : bp a 4 * d4 a k 1 2 q = bF a 4 0 k * bF a 4 3 q - bF a 4 0 q * bF a 4 3 k := by
  simp only [bp, bF]
  have h := pl4 a 0 3 k q 1 2
  have e : ∀ x y : Nat, d4 a x y 1 2 = d4 a x 1 2 y := fun x y => by unfold d4 d3 d2; grind
  rw [e, e, e, e, e, e] at h
  grind
theorem bh_412 (a : Nat → Nat → Int) (k q : Nat) : bp a 4 * d4 a 0 k q 3 = bF a 4 1 k * bF a 4 2 q - bF a 4 1 q * bF a 4 2 k := by
  simp only [bp, bF]
  have h := pl4 a 1 2 k q 0 3
  have e : ∀ x y : Nat, d4 a x y 0 3 = d4 a 0 x y 3 := fun x y => by unfold d4 d3 d2; grind
  rw [e, e, e, e, e, e] at h
  grind
theorem bh_413 (a : Nat → Nat → Int) (k q : Nat) : bp a 4 * d4 a 0 k 2 q = bF a 4 1 k * bF a 4 3 q - bF a 4 1 q * bF a 4 3 k := by
  simp only [bp, bF]
  have h := pl4 a 1 3 k q 0 2
  have e : ∀ x y : Nat, d4 a x y 0 2 = -d4 a 0 x 2 y := fun x y => by unfold d4 d3 d2; grind
  rw [e, e, e, e, e, e] at h
  grind
theorem bh_423 (a : Nat → Nat → Int) (k q : Nat) : bp a 4 * d4 a 0 1 k q = bF a 4 2 k * bF a 4 3 q - bF a 4 2 q * bF a 4 3 k := by
  simp only [bp, bF]
  have h := pl4 a 2 3 k q 0 1
  have e : ∀ x y : Nat, d4 a x y 0 1 = d4 a 0 1 x y := fun x y => by unfold d4 d3 d2; grind
  rw [e, e, e, e, e, e] at h
  grind
theorem bs_1 (a : Nat → Nat → Int) (x : Nat → Int) (q : Nat) : bE a 1 x q = bE a 0 (a 0) 0 * bE a 0 x q - bE a 0 x 0 * bE a 0 (a 0) q := rfl
theorem bs_2 (a : Nat → Nat → Int) (x : Nat → Int) (q : Nat) : bp a 1 * bE a 2 x q = bp a 2 * bE a 1 x q - bE a 1 x 1 * bE a 1 (a 1) q := by
  have h := sp1 (bp a 1) (bF a 1 0 1) (bF a 1 0 q) (a 1 0) (a 1 1) (a 1 q) (x 0) (x 1) (x q)
  rw [bp_2]
  refine Eq.trans ?_ h.symm
  show bp a 1 * (bp a 2 * x q - x 0 * bF a 2 0 q - x 1 * bF a 2 1 q) = _
  rw [bF_2, bG_20, bp_2]
  simp only [bE]
  grind
theorem bs_3 (a : Nat → Nat → Int) (x : Nat → Int) (q : Nat) : bp a 2 * bE a 3 x q = bp a 3 * bE a 2 x q - bE a 2 x 2 * bE a 2 (a 2) q := by
  have h := sp2 (bp a 2) (bF a 2 0 2) (bF a 2 1 2) (bF a 2 0 q) (bF a 2 1 q) (d2 a 2 q) (a 2 0) (a 2 1) (a 2 2) (a 2 q) (x 0) (x 1) (x 2) (x q) (bh_2 a 2 q)
  rw [bp_3]
  refine Eq.trans ?_ h.symm
  show bp a 2 * (bp a 3 * x q - x 0 * bF a 3 0 q - x 1 * bF a 3 1 q - x 2 * bF a 3 2 q) = _
  rw [bF_3, bG_30, bG_31, bp_3]
  simp only [bE]
  grind
theorem bs_4 (a : Nat → Nat → Int) (x : Nat → Int) (q : Nat) : bp a 3 * bE a 4 x q = bp a 4 * bE a 3 x q - bE a 3 x 3 * bE a 3 (a 3) q := by
  have h := sp3 (bp a 3) (bF a 3 0 3) (bF a 3 1 3) (bF a 3 2 3) (bF a 3 0 q) (bF a 3 1 q) (bF a 3 2 q) (d3 a 3 q 2) (d3 a 3 1 q) (d3 a 0 3 q) (a 3 0) (a 3 1) (a 3 2) (a 3 3) (a 3 q) (x 0) (x 1) (x 2) (x 3) (x q) (bh_301 a 3 q) (bh_302 a 3 q) (bh_312 a 3 q)
  rw [bp_4]
  refine Eq.trans ?_ h.symm
  show bp a 3 * (bp a 4 * x q - x 0 * bF a 4 0 q - x 1 * bF a 4 1 q - x 2 * bF a 4 2 q - x 3 * bF a 4 3 q) = _
  rw [bF_4, bG_40, bG_41, bG_42, bp_4]
  simp only [bE]
  grind
theorem bs_5 (a : Nat → Nat → Int) (x : Nat → Int) (q : Nat) : ∃ z : Int, bp a 4 * z = bE a 4 (a 4) 4 * bE a 4 x q - bE a 4 x 4 * bE a 4 (a 4) q := by
  have h := sp4 (bp a 4) (bF a 4 0 4) (bF a 4 1 4) (bF a 4 2 4) (bF a 4 3 4) (bF a 4 0 q) (bF a 4 1 q) (bF a 4 2 q) (bF a 4 3 q) (d4 a 4 q 2 3) (d4 a 4 1 q 3) (d4 a 4 1 2 q) (d4 a 0 4 q 3) (d4 a 0 4 2 q) (d4 a 0 1 4 q) (a 4 0) (a 4 1) (a 4 2) (a 4 3) (a 4 4) (a 4 q) (x 0) (x 1) (x 2) (x 3) (x 4) (x q) (bh_401 a 4 q) (bh_402 a 4 q) (bh_403 a 4 q) (bh_412 a 4 q) (bh_413 a 4 q) (bh_423 a 4 q)
  exact ⟨_, h.symm⟩
