/-! Inverses by a power, no zero divisors, no cube root of -7 (own rows). -/
def kf_inv (m a : Nat) : Nat := a ^ (m - 2) % m
theorem kf_ndvd {m a : Nat} (h : a % m ≠ 0) : ¬ m ∣ a := fun q => h (Nat.mod_eq_zero_of_dvd q)
theorem kf_inv_mul {m a : Nat} (hm : pm_prime m) (ha : a % m ≠ 0) : a * kf_inv m a % m = 1 := by
  have h2 := hm.1
  unfold kf_inv
  rw [Nat.mul_mod_mod]
  have e : a * a ^ (m - 2) = a ^ (m - 1) := by
    have q : m - 1 = (m - 2) + 1 := by omega
    rw [q, Nat.pow_succ, Nat.mul_comm]
  rw [e]
  exact pm_fermat1 hm (kf_ndvd ha)
theorem kf_inv_lt {m a : Nat} (hm : pm_prime m) : kf_inv m a < m := Nat.mod_lt _ (by have := hm.1; omega)
theorem kf_uniq {m a x y : Nat} (hx : x < m) (hy : y < m) (h1 : a * x % m = 1) (h2 : a * y % m = 1) : x = y := by
  have hm : 1 < m := by
    apply Classical.byContradiction
    intro q
    have : a * x % m < m := Nat.mod_lt _ (by omega)
    omega
  have e1 : x * (a * y) % m = x := by rw [Nat.mul_mod, h2, Nat.mul_mod, Nat.mod_mod, ← Nat.mul_mod, Nat.mul_one, Nat.mod_eq_of_lt hx]
  have e2 : y * (a * x) % m = y := by rw [Nat.mul_mod, h1, Nat.mul_mod, Nat.mod_mod, ← Nat.mul_mod, Nat.mul_one, Nat.mod_eq_of_lt hy]
  have e3 : x * (a * y) = y * (a * x) := by grind
  rw [← e1, e3, e2]
theorem kf_zero {m a b : Nat} (hm : pm_prime m) (h : a * b % m = 0) : a % m = 0 ∨ b % m = 0 := by
  rcases pm_euclid hm (Nat.dvd_of_mod_eq_zero h) with q | q
  · exact Or.inl (Nat.mod_eq_zero_of_dvd q)
  · exact Or.inr (Nat.mod_eq_zero_of_dvd q)
theorem kf_cube_pw : pm_pw kP (kP - 7) 256 ((kP - 1) / 3) ≠ 1 := by decide +kernel
theorem kf_no_cube (x : Nat) : (x * x * x + 7) % kP ≠ 0 := by
  intro h
  have hP := kP_prime
  have h7 : (kP - 7) + 7 = kP := by decide +kernel
  have hx : ¬ kP ∣ x := by
    intro q
    obtain ⟨c, hc⟩ := q
    rw [hc] at h
    have e : kP * c * (kP * c) * (kP * c) + 7 = 7 + kP * (c * (kP * c) * (kP * c)) := by grind
    rw [e, Nat.add_mul_mod_self_left] at h
    exact absurd h (by decide +kernel)
  have h1 := pm_fermat1 hP hx
  have e3 : kP - 1 = 3 * ((kP - 1) / 3) := by decide +kernel
  rw [e3, Nat.pow_mul] at h1
  have hc : x ^ 3 % kP = (kP - 7) % kP := by
    have e4 : x ^ 3 = x * x * x := by grind
    rw [e4]
    have e5 : (x * x * x + 7 + (kP - 7)) % kP = (kP - 7) % kP := by
      rw [Nat.add_mod, h, Nat.zero_add, Nat.mod_mod]
    rw [← e5, Nat.add_assoc, Nat.add_comm 7, h7, Nat.add_mod_right]
  rw [Nat.pow_mod, hc, ← Nat.pow_mod] at h1
  have h2 := pm_pw_eq kP (kP - 7) 256 ((kP - 1) / 3) (by decide +kernel)
  exact kf_cube_pw (h2.trans h1)
