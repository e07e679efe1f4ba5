/-! Sums, differences, products and powers modulo a prime m with m + G = 2^256, as the class does them (own rows). -/
def kG_P : Nat := 4294968273
def kG_N : Nat := 432420386565659656852420866394968145599
/-- m and its gap -/
def kp_ok (m G : Nat) : Prop := m + G = kw_M 8 ∧ 2 < G ∧ G < 680564733841876926926749214863536422912
theorem kp_okP : kp_ok kP kG_P := ⟨by decide +kernel, by decide +kernel, by decide +kernel⟩
theorem kp_okN : kp_ok kN kG_N := ⟨by decide +kernel, by decide +kernel, by decide +kernel⟩
theorem kp_trim {m G R : Nat} (h : kp_ok m G) (hR : R < kw_M 8) : (if R < m then R else kw_sub R m) = R % m := by
  obtain ⟨h1, h2, h3⟩ := h
  rw [kw_M_8] at *
  split
  · rename_i q
    rw [Nat.mod_eq_of_lt q]
  · rename_i q
    unfold kw_sub
    rw [kw_M_8]
    have e : R % m = R - m := by
      rw [Nat.mod_eq_sub_mod (by omega), Nat.mod_eq_of_lt (by omega)]
    rw [e]
    omega
/-- what the turns of a sum leave -/
def kp_sum (G A B : Nat) : Nat := if (A + B) / kw_M 8 = 0 then (A + B) % kw_M 8 else if ((A + B) % kw_M 8 + G) / kw_M 8 = 0 then ((A + B) % kw_M 8 + G) % kw_M 8 else (((A + B) % kw_M 8 + G) % kw_M 8 + G) % kw_M 8
theorem kp_sum_lt (G A B : Nat) : kp_sum G A B < kw_M 8 := by
  have h := kw_M_pos 8
  unfold kp_sum
  split
  · exact Nat.mod_lt _ h
  · split <;> exact Nat.mod_lt _ h
theorem kp_sum_eq {m G A B : Nat} (h : kp_ok m G) (hA : A < kw_M 8) (hB : B < kw_M 8) : kp_sum G A B % m = (A + B) % m := by
  obtain ⟨h1, h2, h3⟩ := h
  unfold kp_sum
  rw [kw_M_8] at *
  have key : ∀ x k : Nat, x = A + B - k * m → k * m ≤ A + B → x % m = (A + B) % m := by
    intro x k e hk
    rw [e, Nat.mul_comm, Nat.sub_mul_mod (by rw [Nat.mul_comm]; exact hk)]
  split
  · rename_i q
    exact key _ 0 (by omega) (by omega)
  · rename_i q
    split
    · rename_i q2
      exact key _ 1 (by omega) (by omega)
    · rename_i q2
      exact key _ 2 (by omega) (by omega)
theorem kp_sum_end {G A B m : Nat} (h : kp_ok m G) (hA : A < kw_M 8) (hB : B < kw_M 8) : (((A + B) % kw_M 8 + G) % kw_M 8 + G) / kw_M 8 = 0 ∨ ((A + B) % kw_M 8 + G) / kw_M 8 = 0 ∨ (A + B) / kw_M 8 = 0 := by
  obtain ⟨h1, h2, h3⟩ := h
  rw [kw_M_8] at *
  omega
/-- A less B modulo m -/
def kp_dif (m A B : Nat) : Nat := (A + (m - B % m)) % m
theorem kp_dif_lt {m A B : Nat} (hm : 0 < m) : kp_dif m A B < m := Nat.mod_lt _ hm
theorem kp_dif_of {m A B x : Nat} (hm : 0 < m) (h : (x + B) % m = A % m) : x % m = kp_dif m A B := by
  unfold kp_dif
  have hb := Nat.mod_lt B hm
  have e1 : (A + (m - B % m)) % m = (x + B + (m - B % m)) % m := by
    rw [Nat.add_mod, ← h, ← Nat.add_mod]
  have e2 : x + B + (m - B % m) = x + m * (B / m + 1) := by
    have := Nat.div_add_mod B m
    rw [Nat.mul_add, Nat.mul_one]
    omega
  rw [e1, e2, Nat.add_mul_mod_self_left]
def kp_sub (G A B : Nat) : Nat := if ¬ A < B then kw_sub A B else if ¬ kw_sub A B < G then kw_sub (kw_sub A B) G else kw_sub (kw_sub (kw_sub A B) G) G
theorem kp_sub_lt (G A B : Nat) : kp_sub G A B < kw_M 8 := by
  unfold kp_sub
  split
  · exact kw_sub_lt _ _
  · split <;> exact kw_sub_lt _ _
theorem kp_sub_eq {m G A B : Nat} (h : kp_ok m G) (hA : A < kw_M 8) (hB : B < kw_M 8) : kp_sub G A B % m = kp_dif m A B := by
  obtain ⟨h1, h2, h3⟩ := h
  have hm : 0 < m := by
    rw [kw_M_8] at h1
    omega
  apply kp_dif_of hm
  unfold kp_sub kw_sub
  rw [kw_M_8] at *
  have key : ∀ x k : Nat, x + B = A + m * k → (x + B) % m = A % m := by
    intro x k e
    rw [e, Nat.add_mul_mod_self_left]
  split
  · rename_i q
    exact key _ 0 (by omega)
  · rename_i q
    split
    · rename_i q2
      exact key _ 1 (by omega)
    · rename_i q2
      exact key _ 2 (by omega)
theorem kp_sub_end {G A B m : Nat} (h : kp_ok m G) (hA : A < kw_M 8) (hB : B < kw_M 8) : A < B → kw_sub A B < G → ¬ kw_sub (kw_sub A B) G < G := by
  obtain ⟨h1, h2, h3⟩ := h
  unfold kw_sub
  rw [kw_M_8] at *
  omega
/-- one fold by the gap -/
def kp_fold (G V : Nat) : Nat := V % kw_M 8 + V / kw_M 8 * G
theorem kp_fold_eq {m G V : Nat} (h : kp_ok m G) : kp_fold G V % m = V % m := by
  obtain ⟨h1, h2, h3⟩ := h
  have e := Nat.div_add_mod V (kw_M 8)
  unfold kp_fold
  generalize V % kw_M 8 = lo at *
  generalize V / kw_M 8 = hi at *
  rw [← e, ← h1, Nat.add_mul, Nat.add_comm lo, Nat.mul_comm hi G, Nat.add_assoc, Nat.mul_add_mod]
theorem kp_fold0 {G V : Nat} (h : V / kw_M 8 = 0) : kp_fold G V = V := by
  have e := Nat.div_add_mod V (kw_M 8)
  unfold kp_fold
  rw [h] at *
  omega
theorem kp_fold_le {m G V b : Nat} (h : kp_ok m G) (hb : V / kw_M 8 ≤ b) : kp_fold G V ≤ kw_M 8 - 1 + b * 680564733841876926926749214863536422911 := by
  obtain ⟨h1, h2, h3⟩ := h
  have e := Nat.mod_lt V (kw_M_pos 8)
  have e2 : V / kw_M 8 * G ≤ b * 680564733841876926926749214863536422911 := Nat.mul_le_mul hb (by omega)
  unfold kp_fold
  omega
/-- four folds are enough -/
theorem kp_four {m G V : Nat} (h : kp_ok m G) (hV : V < kw_M 16) : kp_fold G (kp_fold G (kp_fold G (kp_fold G V))) < kw_M 8 := by
  have h0 : V / kw_M 8 ≤ kw_M 8 - 1 := by
    have : V / kw_M 8 < kw_M 8 := Nat.div_lt_of_lt_mul (by rw [← kw_M_16]; exact hV)
    omega
  have g1 := kp_fold_le h h0
  generalize kp_fold G V = V1 at *
  have h1 : V1 / kw_M 8 ≤ 680564733841876926926749214863536422911 := by
    rw [kw_M_8] at *
    omega
  have g2 := kp_fold_le h h1
  generalize kp_fold G V1 = V2 at *
  have h2 : V2 / kw_M 8 ≤ 4 := by
    rw [kw_M_8] at *
    omega
  have g3 := kp_fold_le h h2
  generalize kp_fold G V2 = V3 at *
  have h3 : V3 / kw_M 8 ≤ 1 := by
    rw [kw_M_8] at *
    omega
  obtain ⟨q1, q2, q3⟩ := h
  unfold kp_fold
  have e := Nat.div_add_mod V3 (kw_M 8)
  have e1 := Nat.mod_lt V3 (kw_M_pos 8)
  generalize V3 % kw_M 8 = lo at *
  generalize V3 / kw_M 8 = hi at *
  rcases (show hi = 0 ∨ hi = 1 by omega) with rfl | rfl
  · rw [kw_M_8] at *
    omega
  · rw [kw_M_8] at *
    omega
theorem kp_fold_lt {m G V : Nat} (h : kp_ok m G) (hV : V < kw_M 16) : kp_fold G V < kw_M 16 := by
  have h0 : V / kw_M 8 ≤ kw_M 8 - 1 := by
    have : V / kw_M 8 < kw_M 8 := Nat.div_lt_of_lt_mul (by rw [← kw_M_16]; exact hV)
    omega
  have g1 := kp_fold_le h h0
  rw [kw_M_16]
  rw [kw_M_8] at *
  omega
/-- n folds -/
def kp_folds (G : Nat) : Nat → Nat → Nat
  | 0, V => V
  | n + 1, V => kp_folds G n (kp_fold G V)
theorem kp_folds_eq {m G : Nat} (h : kp_ok m G) : ∀ n V, kp_folds G n V % m = V % m
  | 0, _ => rfl
  | n + 1, V => by
    show kp_folds G n (kp_fold G V) % m = _
    rw [kp_folds_eq h n, kp_fold_eq h]
theorem kp_folds0 {G : Nat} : ∀ n V, V / kw_M 8 = 0 → kp_folds G n V = V
  | 0, _, _ => rfl
  | n + 1, V, h => by
    show kp_folds G n (kp_fold G V) = V
    rw [kp_fold0 h, kp_folds0 n V h]
theorem kp_folds4 {m G V : Nat} (h : kp_ok m G) (hV : V < kw_M 16) : kp_folds G 4 V < kw_M 8 := kp_four h hV
/-- a number to a power, bit by bit from above -/
theorem kp_bit (e k : Nat) : e / 2 ^ k = 2 * (e / 2 ^ (k + 1)) + e / 2 ^ k % 2 := by
  rw [Nat.pow_succ, ← Nat.div_div_eq_div_mul]
  omega
theorem kp_pow0 {m a e k g : Nat} (hg : g = a ^ (e / 2 ^ (k + 1)) % m) (hb : e / 2 ^ k % 2 = 0) : g * g % m = a ^ (e / 2 ^ k) % m := by
  have h := kp_bit e k
  rw [hb, Nat.add_zero] at h
  rw [h, hg, ← Nat.mul_mod, ← Nat.pow_add]
  congr 2
  omega
theorem kp_pow1 {m a e k g : Nat} (hg : g = a ^ (e / 2 ^ (k + 1)) % m) (hb : e / 2 ^ k % 2 = 1) : g * g % m * a % m = a ^ (e / 2 ^ k) % m := by
  have h := kp_bit e k
  rw [hb] at h
  rw [h, hg, ← Nat.mul_mod, ← Nat.pow_add, Nat.mod_mul_mod, ← Nat.pow_succ]
  congr 2
  omega
