/-! The curve: running sums as (X / Z^2, Y / Z^3) against plain pairs, in any commutative ring, then modulo FIELD (own rows). -/
theorem kj_dbl {α : Type} [Lean.Grind.CommRing α] (X Y Z x y s t u Z1 S Sh M X1 Y1 : α) (hX : X = x * (Z * Z)) (hY : Y = y * (Z * Z * Z)) (hs : (y + y) * s = x * x + (x * x + x * x))
    (ht : t = s * s - x - x) (hu : u = s * (x - t) - y) (hZ1 : Z1 = Y * Z + Y * Z) (hS : S = Y * Y) (hSh : Sh = X * S + X * S + (X * S + X * S)) (hM : M = X * X + X * X + X * X)
    (hX1 : X1 = M * M - Sh - Sh) (hY1 : Y1 = M * (Sh - X1) - ((S + S) * (S + S) + (S + S) * (S + S))) : X1 = t * (Z1 * Z1) ∧ Y1 = u * (Z1 * Z1 * Z1) := by
  have hMs : M = s * Z1 := by grind
  have h4 : Sh = x * (Z1 * Z1) := by grind
  have h1 : X1 = t * (Z1 * Z1) := by grind
  have h5 : (S + S) * (S + S) + (S + S) * (S + S) = y * (Z1 * Z1 * Z1) := by grind
  exact ⟨h1, by grind⟩
theorem kj_add {α : Type} [Lean.Grind.CommRing α] (X Y Z x y bx by1 s t u run rise Z1 sq cu sh X1 Y1 : α) (hX : X = x * (Z * Z)) (hY : Y = y * (Z * Z * Z)) (hs : (bx - x) * s = by1 - y)
    (ht : t = s * s - x - bx) (hu : u = s * (x - t) - y) (hrun : run = bx * (Z * Z) - X) (hrise : rise = by1 * (Z * Z * Z) - Y) (hZ1 : Z1 = Z * run) (hsq : sq = run * run) (hcu : cu = sq * run) (hsh : sh = X * sq)
    (hX1 : X1 = rise * rise - cu - sh - sh) (hY1 : Y1 = rise * (sh - X1) - cu * Y) : X1 = t * (Z1 * Z1) ∧ Y1 = u * (Z1 * Z1 * Z1) := by
  have h1 : rise = s * Z1 := by grind
  have h2 : sh = x * (Z1 * Z1) := by grind
  have h3 : cu = (bx - x) * (Z1 * Z1) := by grind
  have h4 : X1 = t * (Z1 * Z1) := by grind
  have h5 : cu * Y = y * (Z1 * Z1 * Z1) := by grind
  exact ⟨h4, by grind⟩
theorem kj_end {α : Type} [Lean.Grind.CommRing α] (X Y Z x y w : α) (hX : X = x * (Z * Z)) (hY : Y = y * (Z * Z * Z)) (hw : Z * w = 1) : X * (w * w) = x ∧ Y * (w * w * w) = y := by
  constructor <;> grind
/-- a number as an element of the field -/
def kj_f (n : Nat) : Fin kP := ⟨n % kP, Nat.mod_lt _ (by decide +kernel)⟩
theorem kj_f_eq {a b : Nat} : kj_f a = kj_f b ↔ a % kP = b % kP := by
  unfold kj_f
  exact ⟨fun h => Fin.mk.inj h, fun h => Fin.ext h⟩
theorem kj_f_mod (a : Nat) : kj_f (a % kP) = kj_f a := kj_f_eq.mpr (Nat.mod_mod _ _)
theorem kj_f_add (a b : Nat) : kj_f (a + b) = kj_f a + kj_f b := by
  apply Fin.ext
  show (a + b) % kP = (a % kP + b % kP) % kP
  exact Nat.add_mod _ _ _
theorem kj_f_mul (a b : Nat) : kj_f (a * b) = kj_f a * kj_f b := by
  apply Fin.ext
  show (a * b) % kP = (a % kP * (b % kP)) % kP
  exact Nat.mul_mod _ _ _
theorem kj_f_dif (a b : Nat) : kj_f (kp_dif kP a b) = kj_f a - kj_f b := by
  apply Fin.ext
  show ((a + (kP - b % kP)) % kP) % kP = (kP - b % kP + a % kP) % kP
  rw [Nat.mod_mod, Nat.add_comm, Nat.add_mod, Nat.add_mod (kP - b % kP) (a % kP), Nat.mod_mod]
