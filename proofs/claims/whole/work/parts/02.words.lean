/-! Numbers as rows of 32-bit words: kw_d V j is word j of V, kw_s V k x is V with word k put to x (own rows). -/
def kw_M (j : Nat) : Nat := 2 ^ (32 * j)
def kw_d (V j : Nat) : Nat := V / kw_M j % 4294967296
def kw_s (V k x : Nat) : Nat := V - kw_M k * kw_d V k + kw_M k * x
theorem kw_M_0 : kw_M 0 = 1 := rfl
theorem kw_M_s (j : Nat) : kw_M (j + 1) = kw_M j * 4294967296 := by
  unfold kw_M
  rw [Nat.mul_add, Nat.pow_add]
theorem kw_M_pos (j : Nat) : 0 < kw_M j := Nat.pow_pos_iff.mpr (Or.inl (by decide))
theorem kw_M_add (i j : Nat) : kw_M (i + j) = kw_M i * kw_M j := by
  unfold kw_M
  rw [Nat.mul_add, Nat.pow_add]
theorem kw_M_8 : kw_M 8 = 115792089237316195423570985008687907853269984665640564039457584007913129639936 := by decide +kernel
theorem kw_M_16 : kw_M 16 = kw_M 8 * kw_M 8 := kw_M_add 8 8
theorem kw_d_lt (V j : Nat) : kw_d V j < 4294967296 := Nat.mod_lt _ (by decide)
theorem kw_d_lo (V j : Nat) : V % kw_M (j + 1) = V % kw_M j + kw_M j * kw_d V j := by
  rw [kw_M_s, Nat.mod_mul]
  rfl
theorem kw_d_div (V j : Nat) : V / kw_M j = kw_d V j + 4294967296 * (V / kw_M (j + 1)) := by
  rw [kw_M_s, ← Nat.div_div_eq_div_mul]
  unfold kw_d
  have := Nat.div_add_mod (V / kw_M j) 4294967296
  omega
/-- a number, cut at word j -/
theorem kw_d_cut (V j : Nat) : V = V % kw_M j + kw_M j * (kw_d V j + 4294967296 * (V / kw_M (j + 1))) := by
  rw [← kw_d_div]
  have := Nat.div_add_mod V (kw_M j)
  omega
theorem kw_s_cut (V k x : Nat) : kw_s V k x = V % kw_M k + kw_M k * (x + 4294967296 * (V / kw_M (k + 1))) := by
  have h := kw_d_cut V k
  unfold kw_s
  generalize kw_M k = M at *
  generalize V % M = lo at *
  generalize V / kw_M (k + 1) = hi at *
  generalize kw_d V k = w at *
  rw [Nat.mul_add] at h ⊢
  omega
theorem kw_d_ws_same (V k : Nat) {x : Nat} (hx : x < 4294967296) : kw_d (kw_s V k x) k = x := by
  rw [kw_s_cut]
  unfold kw_d
  have hM := kw_M_pos k
  rw [Nat.add_mul_div_left _ _ hM, Nat.div_eq_of_lt (Nat.mod_lt V hM), Nat.zero_add, Nat.add_mul_mod_self_left, Nat.mod_eq_of_lt hx]
theorem kw_M_le {i j : Nat} (h : i ≤ j) : ∃ z, kw_M j = kw_M i * z := ⟨kw_M (j - i), by rw [← kw_M_add]; congr 1; omega⟩
theorem kw_d_mod {V j k : Nat} (h : j < k) : kw_d (V % kw_M k) j = kw_d V j := by
  obtain ⟨z, hz⟩ := kw_M_le (show j + 1 ≤ k by omega)
  unfold kw_d
  rw [hz, kw_M_s, Nat.mul_assoc, Nat.mod_mul_right_div_self, Nat.mod_mul_right_mod]
theorem kw_d_add_hi (a y : Nat) {j k : Nat} (h : j < k) : kw_d (a + kw_M k * y) j = kw_d a j := by
  rw [← kw_d_mod h, Nat.add_mul_mod_self_left, kw_d_mod h]
theorem kw_d_ws_ne (V : Nat) {k j x : Nat} (hx : x < 4294967296) (h : j ≠ k) : kw_d (kw_s V k x) j = kw_d V j := by
  by_cases hj : j < k
  · rw [kw_s_cut, kw_d_add_hi _ _ hj, kw_d_mod hj]
  · have hM := kw_M_pos k
    have e : ∀ W : Nat, kw_d W j = kw_d (W / kw_M (k + 1)) (j - (k + 1)) := by
      intro W
      unfold kw_d
      rw [Nat.div_div_eq_div_mul, ← kw_M_add]
      congr 3
      omega
    rw [e, e V]
    congr 1
    rw [kw_M_s, ← Nat.div_div_eq_div_mul, kw_s_cut, Nat.add_mul_div_left _ _ hM, Nat.div_eq_of_lt (Nat.mod_lt V hM), Nat.zero_add, Nat.add_mul_div_left _ _ (by decide), Nat.div_eq_of_lt hx, Nat.zero_add, kw_M_s]
theorem kw_d_big {V j n : Nat} (h : V < kw_M n) (hj : n ≤ j) : kw_d V j = 0 := by
  obtain ⟨z, hz⟩ := kw_M_le hj
  have hz0 : 0 < z := Nat.pos_of_ne_zero (fun e => by have := kw_M_pos j; rw [hz, e] at this; omega)
  unfold kw_d
  rw [Nat.div_eq_of_lt (Nat.lt_of_lt_of_le h (by rw [hz]; exact Nat.le_mul_of_pos_right _ hz0))]
theorem kw_d_ext {V U : Nat} : ∀ n, (∀ j, j < n → kw_d V j = kw_d U j) → V % kw_M n = U % kw_M n
  | 0, _ => by rw [kw_M_0, Nat.mod_one, Nat.mod_one]
  | n + 1, h => by rw [kw_d_lo, kw_d_lo, kw_d_ext n (fun j hj => h j (by omega)), h n (by omega)]
theorem kw_d_eq {V U n : Nat} (hV : V < kw_M n) (hU : U < kw_M n) (h : ∀ j, j < n → kw_d V j = kw_d U j) : V = U := by
  have e := kw_d_ext n h
  rw [Nat.mod_eq_of_lt hV, Nat.mod_eq_of_lt hU] at e
  exact e
theorem kw_s_lt {V k x n : Nat} (hV : V < kw_M n) (hk : k < n) (hx : x < 4294967296) : kw_s V k x < kw_M n := by
  obtain ⟨z, hz⟩ := kw_M_le (show k + 1 ≤ n by omega)
  have h1 : V / kw_M (k + 1) < z := by
    rw [hz, Nat.mul_comm] at hV
    exact Nat.div_lt_of_lt_mul (by rw [Nat.mul_comm]; exact hV)
  have hM := kw_M_pos k
  have h2 := Nat.mod_lt V hM
  rw [kw_s_cut, hz]
  generalize V / kw_M (k + 1) = hi at *
  rw [kw_M_s k]
  generalize V % kw_M k = lo at *
  generalize kw_M k = M at *
  have h3 : M * (x + 4294967296 * hi) + M ≤ M * (4294967296 * z) := by
    rw [← Nat.mul_succ]
    exact Nat.mul_le_mul (Nat.le_refl M) (by omega)
  rw [Nat.mul_assoc]
  omega
/-- the words from k on stay, the number below word k is what was put there -/
theorem kw_s_lo (V k x : Nat) (hx : x < 4294967296) : kw_s V k x % kw_M (k + 1) = V % kw_M k + kw_M k * x := by
  have e : kw_s V k x % kw_M k = V % kw_M k := by rw [kw_s_cut, Nat.add_mul_mod_self_left, Nat.mod_mod]
  rw [kw_d_lo, kw_d_ws_same V k hx, e]
/-! sums and differences, word by word -/
def kw_c (A B j : Nat) : Nat := (A % kw_M j + B % kw_M j) / kw_M j
theorem kw_c_0 (A B : Nat) : kw_c A B 0 = 0 := by
  unfold kw_c
  rw [kw_M_0, Nat.mod_one, Nat.mod_one]
theorem kw_c_le (A B j : Nat) : kw_c A B j ≤ 1 := by
  have hM := kw_M_pos j
  have h1 := Nat.mod_lt A hM
  have h2 := Nat.mod_lt B hM
  unfold kw_c
  have h3 : (A % kw_M j + B % kw_M j) / kw_M j < 2 := Nat.div_lt_of_lt_mul (by omega)
  omega
theorem kw_c_step (A B j : Nat) : (kw_d A j + kw_d B j + kw_c A B j) / 4294967296 = kw_c A B (j + 1) ∧ (kw_d A j + kw_d B j + kw_c A B j) % 4294967296 = kw_d (A + B) j := by
  have hM := kw_M_pos j
  constructor
  · have e : A % kw_M (j + 1) + B % kw_M (j + 1) = (A % kw_M j + B % kw_M j) + kw_M j * (kw_d A j + kw_d B j) := by
      rw [kw_d_lo, kw_d_lo, Nat.mul_add]
      omega
    show _ = (A % kw_M (j + 1) + B % kw_M (j + 1)) / kw_M (j + 1)
    rw [e, kw_M_s, ← Nat.div_div_eq_div_mul, Nat.add_mul_div_left _ _ hM]
    show _ = (kw_c A B j + (kw_d A j + kw_d B j)) / 4294967296
    congr 1
    omega
  · have e : (A + B) / kw_M j = kw_c A B j + (A / kw_M j + B / kw_M j) := by
      have hA := Nat.div_add_mod A (kw_M j)
      have hB := Nat.div_add_mod B (kw_M j)
      have e2 : A + B = (A % kw_M j + B % kw_M j) + kw_M j * (A / kw_M j + B / kw_M j) := by
        rw [Nat.mul_add]
        omega
      unfold kw_c
      rw [← Nat.add_mul_div_left _ _ hM, ← e2]
    show _ = (A + B) / kw_M j % 4294967296
    rw [e]
    unfold kw_d
    omega
theorem kw_c_end {A B : Nat} (hA : A < kw_M 8) (hB : B < kw_M 8) : kw_c A B 8 = (A + B) / kw_M 8 := by
  unfold kw_c
  rw [Nat.mod_eq_of_lt hA, Nat.mod_eq_of_lt hB]
def kw_b (A B j : Nat) : Nat := if A % kw_M j < B % kw_M j then 1 else 0
theorem kw_b_0 (A B : Nat) : kw_b A B 0 = 0 := by
  unfold kw_b
  rw [kw_M_0, Nat.mod_one, Nat.mod_one]
  rfl
theorem kw_b_le (A B j : Nat) : kw_b A B j ≤ 1 := by
  unfold kw_b
  split <;> omega
theorem kw_b_step (A B j : Nat) : (if kw_d A j < kw_d B j + kw_b A B j then 1 else 0) = kw_b A B (j + 1) := by
  have hM := kw_M_pos j
  have h1 := Nat.mod_lt A hM
  have h2 := Nat.mod_lt B hM
  show _ = if A % kw_M (j + 1) < B % kw_M (j + 1) then 1 else 0
  rw [kw_d_lo, kw_d_lo]
  unfold kw_b
  generalize kw_d A j = a
  generalize kw_d B j = b
  generalize A % kw_M j = a0 at *
  generalize B % kw_M j = b0 at *
  generalize kw_M j = M at *
  have key : (a < b + (if a0 < b0 then 1 else 0)) ↔ a0 + M * a < b0 + M * b := by
    rcases Nat.lt_trichotomy a b with h | h | h
    · have h3 : M * (a + 1) ≤ M * b := Nat.mul_le_mul (Nat.le_refl M) h
      rw [Nat.mul_add, Nat.mul_one] at h3
      constructor
      · intro _; omega
      · intro _; omega
    · subst h
      split <;> constructor <;> intro _ <;> omega
    · have h3 : M * (b + 1) ≤ M * a := Nat.mul_le_mul (Nat.le_refl M) h
      rw [Nat.mul_add, Nat.mul_one] at h3
      constructor
      · intro h4
        split at h4 <;> omega
      · intro _; omega
  by_cases h : a < b + (if a0 < b0 then 1 else 0)
  · rw [if_pos h, if_pos (key.mp h)]
  · rw [if_neg h, if_neg (fun q => h (key.mpr q))]
theorem kw_b_word (A B X j : Nat) (hX : B ≤ kw_M (j + 1) * X) : (kw_d A j + 4294967296 - kw_d B j - kw_b A B j) % 4294967296 = kw_d (A + kw_M (j + 1) * X - B) j := by
  have hM := kw_M_pos j
  have h1 := Nat.mod_lt A hM
  have h2 := Nat.mod_lt B hM
  have cA := kw_d_cut A j
  have cB := kw_d_cut B j
  have lA := kw_d_lt A j
  have lB := kw_d_lt B j
  have hq : (A + kw_M (j + 1) * X - B) / kw_M j % 4294967296 = (kw_d A j + 4294967296 - kw_d B j - kw_b A B j) % 4294967296 := by
    rw [kw_M_s] at hX ⊢
    rw [Nat.mul_assoc] at hX ⊢
    have hbX : B / kw_M j ≤ 4294967296 * X := by
      have h5 := Nat.div_add_mod B (kw_M j)
      apply Nat.le_of_mul_le_mul_left _ hM
      omega
    rw [kw_d_div B j] at hbX
    unfold kw_b
    generalize kw_d A j = a at *
    generalize kw_d B j = b at *
    generalize A % kw_M j = a0 at *
    generalize B % kw_M j = b0 at *
    generalize A / (kw_M j * 4294967296) = ah at *
    generalize hbh : B / kw_M (j + 1) = bh at *
    generalize A / kw_M (j + 1) = ah at *
    generalize kw_M j = M at *
    by_cases hlt : a0 < b0
    · rw [if_pos hlt]
      have hpos : b + 4294967296 * bh + 1 ≤ a + 4294967296 * ah + 4294967296 * X := by
        apply Classical.byContradiction
        intro hn
        have h6 : M * (4294967296 * X) ≤ M * (b + 4294967296 * bh) := Nat.mul_le_mul (Nat.le_refl M) (by omega)
        omega
      have e : A + M * (4294967296 * X) - B = (a0 + M - b0) + M * (a + 4294967296 * ah + 4294967296 * X - (b + 4294967296 * bh) - 1) := by
        rw [Nat.mul_sub, Nat.mul_sub, Nat.mul_add, Nat.mul_one]
        have h7 : M * (b + 4294967296 * bh + 1) ≤ M * (a + 4294967296 * ah + 4294967296 * X) := Nat.mul_le_mul (Nat.le_refl M) hpos
        rw [Nat.mul_add, Nat.mul_one, Nat.mul_add M (a + 4294967296 * ah)] at h7
        omega
      rw [e, Nat.add_mul_div_left _ _ hM, Nat.div_eq_of_lt (by omega)]
      omega
    · rw [if_neg hlt]
      have e : A + M * (4294967296 * X) - B = (a0 - b0) + M * (a + 4294967296 * ah + 4294967296 * X - (b + 4294967296 * bh)) := by
        rw [Nat.mul_sub, Nat.mul_add]
        have h7 : M * (b + 4294967296 * bh) ≤ M * (a + 4294967296 * ah + 4294967296 * X) := Nat.mul_le_mul (Nat.le_refl M) (by omega)
        rw [Nat.mul_add M (a + 4294967296 * ah)] at h7
        omega
      rw [e, Nat.add_mul_div_left _ _ hM, Nat.div_eq_of_lt (by omega)]
      omega
  unfold kw_d at hq ⊢
  exact hq.symm
/-- A less B, around 2^256 -/
def kw_sub (A B : Nat) : Nat := (A + kw_M 8 - B) % kw_M 8
theorem kw_sub_lt (A B : Nat) : kw_sub A B < kw_M 8 := Nat.mod_lt _ (kw_M_pos 8)
theorem kw_sub_word {A B j : Nat} (hB : B < kw_M 8) (hj : j < 8) : (kw_d A j + 4294967296 - kw_d B j - kw_b A B j) % 4294967296 = kw_d (kw_sub A B) j := by
  obtain ⟨z, hz⟩ := kw_M_le (show j + 1 ≤ 8 by omega)
  unfold kw_sub
  rw [kw_d_mod hj, hz]
  rw [hz] at hB
  exact kw_b_word A B z j (by omega)
theorem kw_b_end {A B : Nat} (hA : A < kw_M 8) (hB : B < kw_M 8) : kw_b A B 8 = if A < B then 1 else 0 := by
  unfold kw_b
  rw [Nat.mod_eq_of_lt hA, Nat.mod_eq_of_lt hB]
