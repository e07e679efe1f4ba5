/-! The curve: running sums as (X / Z^2, Y / Z^3) against plain pairs, in any commutative ring, then modulo FIELD (own rows). -/
section KJ
variable {α : Type}
theorem kj_r1 [Lean.Grind.CommRing α] (y s Z : α) : s * (y * (Z * Z * Z) * Z + y * (Z * Z * Z) * Z) = ((y + y) * s) * (Z * Z * Z * Z) := by grind
theorem kj_r2 [Lean.Grind.CommRing α] (x Z : α) : (x * x + (x * x + x * x)) * (Z * Z * Z * Z) = x * (Z * Z) * (x * (Z * Z)) + x * (Z * Z) * (x * (Z * Z)) + x * (Z * Z) * (x * (Z * Z)) := by grind
theorem kj_r3 [Lean.Grind.CommRing α] (x Y Z : α) : x * (Z * Z) * (Y * Y) + x * (Z * Z) * (Y * Y) + (x * (Z * Z) * (Y * Y) + x * (Z * Z) * (Y * Y)) = x * ((Y * Z + Y * Z) * (Y * Z + Y * Z)) := by grind
theorem kj_r4 [Lean.Grind.CommRing α] (s Z x : α) : s * Z * (s * Z) - x * (Z * Z) - x * (Z * Z) = (s * s - x - x) * (Z * Z) := by grind
theorem kj_r5 [Lean.Grind.CommRing α] (y Y Z : α) : y * ((Y * Z + Y * Z) * (Y * Z + Y * Z) * (Y * Z + Y * Z)) = (Y * Y * Y + Y * Y * Y + Y * Y * Y + Y * Y * Y + (Y * Y * Y + Y * Y * Y + Y * Y * Y + Y * Y * Y)) * (y * (Z * Z * Z)) := by grind
theorem kj_r6 [Lean.Grind.CommRing α] (Y : α) : (Y * Y * Y + Y * Y * Y + Y * Y * Y + Y * Y * Y + (Y * Y * Y + Y * Y * Y + Y * Y * Y + Y * Y * Y)) * Y = (Y * Y + Y * Y) * (Y * Y + Y * Y) + (Y * Y + Y * Y) * (Y * Y + Y * Y) := by grind
theorem kj_r7 [Lean.Grind.CommRing α] (s Z x t y : α) : s * Z * (x * (Z * Z) - t * (Z * Z)) - y * (Z * Z * Z) = (s * (x - t) - y) * (Z * Z * Z) := by grind
theorem kj_dbl [Lean.Grind.CommRing α] (X Y Z x y s t u Z1 S Sh M X1 Y1 : α) (hX : X = x * (Z * Z)) (hY : Y = y * (Z * Z * Z)) (hs : (y + y) * s = x * x + (x * x + x * x))
    (ht : t = s * s - x - x) (hu : u = s * (x - t) - y) (hZ1 : Z1 = Y * Z + Y * Z) (hS : S = Y * Y) (hSh : Sh = X * S + X * S + (X * S + X * S)) (hM : M = X * X + X * X + X * X)
    (hX1 : X1 = M * M - Sh - Sh) (hY1 : Y1 = M * (Sh - X1) - ((S + S) * (S + S) + (S + S) * (S + S))) : X1 = t * (Z1 * Z1) ∧ Y1 = u * (Z1 * Z1 * Z1) := by
  have hMs : M = s * Z1 := by rw [hM, hZ1, hX, hY, kj_r1, hs, kj_r2]
  have h4 : Sh = x * (Z1 * Z1) := by rw [hSh, hS, hX, hZ1, kj_r3]
  have h1 : X1 = t * (Z1 * Z1) := by rw [hX1, hMs, h4, kj_r4, ← ht]
  have h5 : (S + S) * (S + S) + (S + S) * (S + S) = y * (Z1 * Z1 * Z1) := by rw [hS, hZ1, kj_r5, ← hY, kj_r6]
  exact ⟨h1, by rw [hY1, hMs, h4, h1, h5, kj_r7, ← hu]⟩
theorem kj_q1 [Lean.Grind.CommRing α] (b y Z : α) : b * (Z * Z * Z) - y * (Z * Z * Z) = (b - y) * (Z * Z * Z) := by grind
theorem kj_q2 [Lean.Grind.CommRing α] (b x s Z : α) : (b - x) * s * (Z * Z * Z) = s * (Z * (b * (Z * Z) - x * (Z * Z))) := by grind
theorem kj_q3 [Lean.Grind.CommRing α] (x Z r : α) : x * (Z * Z) * (r * r) = x * (Z * r * (Z * r)) := by grind
theorem kj_q4 [Lean.Grind.CommRing α] (b x Z : α) : b * (Z * Z) - x * (Z * Z) = (b - x) * (Z * Z) := by grind
theorem kj_q5 [Lean.Grind.CommRing α] (d Z r : α) : r * r * (d * (Z * Z)) = d * (Z * r * (Z * r)) := by grind
theorem kj_q6 [Lean.Grind.CommRing α] (s Z b x : α) : s * Z * (s * Z) - (b - x) * (Z * Z) - x * (Z * Z) - x * (Z * Z) = (s * s - x - b) * (Z * Z) := by grind
theorem kj_q7 [Lean.Grind.CommRing α] (y Z r : α) : r * r * r * (y * (Z * Z * Z)) = y * (Z * r * (Z * r) * (Z * r)) := by grind
theorem kj_add [Lean.Grind.CommRing α] (X Y Z x y bx by1 s t u run rise Z1 sq cu sh X1 Y1 : α) (hX : X = x * (Z * Z)) (hY : Y = y * (Z * Z * Z)) (hs : (bx - x) * s = by1 - y)
    (ht : t = s * s - x - bx) (hu : u = s * (x - t) - y) (hrun : run = bx * (Z * Z) - X) (hrise : rise = by1 * (Z * Z * Z) - Y) (hZ1 : Z1 = Z * run) (hsq : sq = run * run) (hcu : cu = sq * run) (hsh : sh = X * sq)
    (hX1 : X1 = rise * rise - cu - sh - sh) (hY1 : Y1 = rise * (sh - X1) - cu * Y) : X1 = t * (Z1 * Z1) ∧ Y1 = u * (Z1 * Z1 * Z1) := by
  have h1 : rise = s * Z1 := by rw [hrise, hY, kj_q1, ← hs, kj_q2, ← hX, ← hrun, ← hZ1]
  have h2 : sh = x * (Z1 * Z1) := by rw [hsh, hX, hsq, kj_q3, ← hZ1]
  have h0 : run = (bx - x) * (Z * Z) := by rw [hrun, hX, kj_q4]
  have h3 : cu = (bx - x) * (Z1 * Z1) := by
    have e : cu = run * run * ((bx - x) * (Z * Z)) := by rw [hcu, hsq, ← h0]
    rw [e, kj_q5, ← hZ1]
  have h4 : X1 = t * (Z1 * Z1) := by rw [hX1, h1, h3, h2, kj_q6, ← ht]
  have h5 : cu * Y = y * (Z1 * Z1 * Z1) := by rw [hcu, hsq, hY, kj_q7, ← hZ1]
  exact ⟨h4, by rw [hY1, h5, h1, h2, h4, kj_r7, ← hu]⟩
theorem kj_e1 [Lean.Grind.CommRing α] (x Z w : α) : x * (Z * Z) * (w * w) = x * (Z * w * (Z * w)) := by grind
theorem kj_e2 [Lean.Grind.CommRing α] (x Z w : α) : x * (Z * Z * Z) * (w * w * w) = x * (Z * w * (Z * w) * (Z * w)) := by grind
theorem kj_e3 [Lean.Grind.CommRing α] (x : α) : x * (1 * 1) = x := by grind
theorem kj_e4 [Lean.Grind.CommRing α] (x : α) : x * (1 * 1 * 1) = x := by grind
theorem kj_end [Lean.Grind.CommRing α] (X Y Z x y w : α) (hX : X = x * (Z * Z)) (hY : Y = y * (Z * Z * Z)) (hw : Z * w = 1) : X * (w * w) = x ∧ Y * (w * w * w) = y := by
  constructor
  · rw [hX, kj_e1, hw, kj_e3]
  · rw [hY, kj_e2, hw, kj_e4]
end KJ
/-- a number as an element of the field -/
def kj_f (n : Nat) : Fin kP := ⟨n % kP, Nat.mod_lt _ (by decide +kernel)⟩
theorem kj_f_eq {a b : Nat} : kj_f a = kj_f b ↔ a % kP = b % kP := by
  unfold kj_f
  exact ⟨fun h => Fin.mk.inj h, fun h => Fin.ext h⟩
theorem kj_f_mod (a : Nat) : kj_f (a % kP) = kj_f a := kj_f_eq.mpr (Nat.mod_mod _ _)
theorem kj_f_add (a b : Nat) : kj_f (a + b) = kj_f a + kj_f b := by
  apply Fin.ext
  show (a + b) % kP = (a % kP + b % kP) % kP
  exact Nat.add_mod _ _ _
theorem kj_f_mul (a b : Nat) : kj_f (a * b) = kj_f a * kj_f b := by
  apply Fin.ext
  show (a * b) % kP = (a % kP * (b % kP)) % kP
  exact Nat.mul_mod _ _ _
theorem kj_f_dif (a b : Nat) : kj_f (kp_dif kP a b) = kj_f a - kj_f b := by
  apply Fin.ext
  show ((a + (kP - b % kP)) % kP) % kP = (kP - b % kP + a % kP) % kP
  rw [Nat.mod_mod, Nat.add_comm, Nat.add_mod, Nat.add_mod (kP - b % kP) (a % kP), Nat.mod_mod]
