section
/-! Primes: Euclid, Fermat's little theorem, Pocklington's test by powers of 2 (own rows). -/
def pm_prime (p : Nat) : Prop := 2 ≤ p ∧ ∀ d, d ∣ p → d = 1 ∨ d = p
theorem pm_cop {p a : Nat} (hp : pm_prime p) (h : ¬ p ∣ a) : Nat.Coprime p a := by
  rcases hp.2 (Nat.gcd p a) (Nat.gcd_dvd_left p a) with e | e
  · exact e
  · have q := Nat.gcd_dvd_right p a
    rw [e] at q
    exact absurd q h
theorem pm_euclid {p a b : Nat} (hp : pm_prime p) (h : p ∣ a * b) : p ∣ a ∨ p ∣ b := by
  by_cases ha : p ∣ a
  · exact Or.inl ha
  · exact Or.inr ((pm_cop hp ha).dvd_of_dvd_mul_left h)
theorem pm_pow {p a : Nat} (hp : pm_prime p) : ∀ n, p ∣ a ^ n → p ∣ a
  | 0, h => by
    rw [Nat.pow_zero] at h
    have h1 := Nat.le_of_dvd (by decide) h
    have h2 := hp.1
    omega
  | n + 1, h => by
    rw [Nat.pow_succ] at h
    rcases pm_euclid hp h with q | q
    · exact pm_pow hp n q
    · exact q
def pm_ch : Nat → Nat → Nat
  | _, 0 => 1
  | 0, _ + 1 => 0
  | n + 1, k + 1 => pm_ch n k + pm_ch n (k + 1)
theorem pm_ch_n0 (n : Nat) : pm_ch n 0 = 1 := by cases n <;> simp [pm_ch]
theorem pm_ch_0s (k : Nat) : pm_ch 0 (k + 1) = 0 := by simp [pm_ch]
theorem pm_ch_ss (n k : Nat) : pm_ch (n + 1) (k + 1) = pm_ch n k + pm_ch n (k + 1) := by simp [pm_ch]
theorem pm_ch_big : ∀ n k, n < k → pm_ch n k = 0
  | 0, 0, h => by omega
  | 0, k + 1, _ => pm_ch_0s k
  | n + 1, 0, h => by omega
  | n + 1, k + 1, h => by rw [pm_ch_ss, pm_ch_big n k (by omega), pm_ch_big n (k + 1) (by omega)]
theorem pm_ch_self : ∀ n, pm_ch n n = 1
  | 0 => pm_ch_n0 0
  | n + 1 => by rw [pm_ch_ss, pm_ch_self n, pm_ch_big n (n + 1) (by omega)]
theorem pm_ch_mul : ∀ n k, (k + 1) * pm_ch (n + 1) (k + 1) = (n + 1) * pm_ch n k
  | 0, 0 => by simp [pm_ch]
  | 0, k + 1 => by rw [pm_ch_ss, pm_ch_0s, pm_ch_0s]; simp
  | n + 1, 0 => by
    have h := pm_ch_mul n 0
    rw [pm_ch_ss, pm_ch_n0]
    rw [pm_ch_n0] at h
    omega
  | n + 1, k + 1 => by
    have h1 := pm_ch_mul n k
    have h2 := pm_ch_mul n (k + 1)
    rw [pm_ch_ss] at h1 h2
    rw [pm_ch_ss, pm_ch_ss n k, pm_ch_ss n (k + 1)]
    generalize pm_ch n k = A at *
    generalize pm_ch n (k + 1) = B at *
    generalize pm_ch n (k + 1 + 1) = C at *
    have e1 : (k + 1 + 1) * (A + B + (B + C)) = (k + 1) * (A + B) + (A + B) + (k + 1 + 1) * (B + C) := by grind
    have e2 : (n + 1 + 1) * (A + B) = (n + 1) * A + (n + 1) * B + (A + B) := by grind
    omega
def pm_sm (f : Nat → Nat) : Nat → Nat
  | 0 => 0
  | n + 1 => pm_sm f n + f n
theorem pm_sm_s (f : Nat → Nat) (n : Nat) : pm_sm f (n + 1) = pm_sm f n + f n := rfl
theorem pm_sm_shift (f : Nat → Nat) : ∀ n, pm_sm f (n + 1) = f 0 + pm_sm (fun k => f (k + 1)) n
  | 0 => by simp [pm_sm]
  | n + 1 => by
    rw [pm_sm_s f (n + 1), pm_sm_shift f n, pm_sm_s (fun k => f (k + 1)) n]
    omega
theorem pm_sm_congr {f g : Nat → Nat} : ∀ n, (∀ k, k < n → f k = g k) → pm_sm f n = pm_sm g n
  | 0, _ => rfl
  | n + 1, h => by rw [pm_sm_s, pm_sm_s, pm_sm_congr n (fun k hk => h k (by omega)), h n (by omega)]
theorem pm_sm_add (f g : Nat → Nat) : ∀ n, pm_sm (fun k => f k + g k) n = pm_sm f n + pm_sm g n
  | 0 => rfl
  | n + 1 => by
    rw [pm_sm_s, pm_sm_s, pm_sm_s, pm_sm_add f g n]
    omega
theorem pm_sm_mul (c : Nat) (f : Nat → Nat) : ∀ n, pm_sm (fun k => c * f k) n = c * pm_sm f n
  | 0 => rfl
  | n + 1 => by rw [pm_sm_s, pm_sm_s, pm_sm_mul c f n, Nat.mul_add]
theorem pm_sm_dvd {p : Nat} {f : Nat → Nat} : ∀ n, (∀ k, k < n → p ∣ f k) → p ∣ pm_sm f n
  | 0, _ => Nat.dvd_zero p
  | n + 1, h => by
    rw [pm_sm_s]
    exact Nat.dvd_add (pm_sm_dvd n (fun k hk => h k (by omega))) (h n (by omega))
theorem pm_binom (a : Nat) : ∀ n, (a + 1) ^ n = pm_sm (fun k => pm_ch n k * a ^ k) (n + 1)
  | 0 => by simp [pm_sm, pm_ch]
  | n + 1 => by
    have ih := pm_binom a n
    have e1 : pm_sm (fun k => pm_ch (n + 1) k * a ^ k) (n + 1 + 1) = 1 + (a * pm_sm (fun k => pm_ch n k * a ^ k) (n + 1) + pm_sm (fun k => pm_ch n (k + 1) * a ^ (k + 1)) (n + 1)) := by
      rw [pm_sm_shift]
      show pm_ch (n + 1) 0 * a ^ 0 + pm_sm (fun k => pm_ch (n + 1) (k + 1) * a ^ (k + 1)) (n + 1) = _
      rw [pm_ch_n0, Nat.pow_zero, Nat.one_mul]
      have h1 := pm_sm_mul a (fun k => pm_ch n k * a ^ k) (n + 1)
      have h2 := pm_sm_add (fun k => a * (pm_ch n k * a ^ k)) (fun k => pm_ch n (k + 1) * a ^ (k + 1)) (n + 1)
      have h3 : pm_sm (fun k => pm_ch (n + 1) (k + 1) * a ^ (k + 1)) (n + 1) = pm_sm (fun k => a * (pm_ch n k * a ^ k) + pm_ch n (k + 1) * a ^ (k + 1)) (n + 1) := by
        apply pm_sm_congr
        intro k _
        rw [pm_ch_ss, Nat.add_mul, Nat.pow_succ]
        grind
      rw [h3, h2, h1]
    have e2 : pm_sm (fun k => pm_ch n k * a ^ k) (n + 1) = 1 + pm_sm (fun k => pm_ch n (k + 1) * a ^ (k + 1)) (n + 1) := by
      have h := pm_sm_shift (fun k => pm_ch n k * a ^ k) (n + 1)
      rw [pm_sm_s] at h
      have h : pm_sm (fun k => pm_ch n k * a ^ k) (n + 1) + pm_ch n (n + 1) * a ^ (n + 1) = pm_ch n 0 * a ^ 0 + pm_sm (fun k => pm_ch n (k + 1) * a ^ (k + 1)) (n + 1) := h
      rw [pm_ch_big n (n + 1) (by omega), pm_ch_n0, Nat.pow_zero, Nat.zero_mul, Nat.one_mul, Nat.add_zero] at h
      exact h
    rw [Nat.pow_succ, ih, e1, Nat.mul_add, Nat.mul_one, Nat.mul_comm _ a]
    omega
theorem pm_ch_dvd {p k : Nat} (hp : pm_prime p) (h0 : 0 < k) (hk : k < p) : p ∣ pm_ch p k := by
  obtain ⟨n, rfl⟩ : ∃ n, p = n + 1 := ⟨p - 1, by omega⟩
  obtain ⟨j, rfl⟩ : ∃ j, k = j + 1 := ⟨k - 1, by omega⟩
  have h := pm_ch_mul n j
  have hd : (n + 1) ∣ (j + 1) * pm_ch (n + 1) (j + 1) := by
    rw [h]
    exact Nat.dvd_mul_right _ _
  rcases pm_euclid hp hd with q | q
  · exact absurd (Nat.le_of_dvd (by omega) q) (by omega)
  · exact q
theorem pm_step {p : Nat} (hp : pm_prime p) (a : Nat) : (a + 1) ^ p % p = (a ^ p + 1) % p := by
  obtain ⟨n, rfl⟩ : ∃ n, p = n + 1 := ⟨p - 1, by have := hp.1; omega⟩
  have hd : (n + 1) ∣ pm_sm (fun k => pm_ch (n + 1) (k + 1) * a ^ (k + 1)) n := pm_sm_dvd n (fun k hk => Nat.dvd_trans (pm_ch_dvd hp (by omega) (by omega)) (Nat.dvd_mul_right _ _))
  have e : (a + 1) ^ (n + 1) = pm_ch (n + 1) 0 * a ^ 0 + pm_sm (fun k => pm_ch (n + 1) (k + 1) * a ^ (k + 1)) n + pm_ch (n + 1) (n + 1) * a ^ (n + 1) := by
    rw [pm_binom a (n + 1), pm_sm_s, pm_sm_shift]
  obtain ⟨c, hc⟩ := hd
  rw [e, hc, pm_ch_self, pm_ch_n0, Nat.pow_zero, Nat.one_mul, Nat.one_mul]
  generalize a ^ (n + 1) = X
  rw [show 1 + (n + 1) * c + X = (X + 1) + (n + 1) * c by omega, Nat.add_mul_mod_self_left]
theorem pm_fermat {p : Nat} (hp : pm_prime p) : ∀ a, a ^ p % p = a % p
  | 0 => by rw [Nat.zero_pow (by have := hp.1; omega)]
  | a + 1 => by rw [pm_step hp a, Nat.add_mod, pm_fermat hp a, ← Nat.add_mod]
theorem pm_fermat1 {p a : Nat} (hp : pm_prime p) (h : ¬ p ∣ a) : a ^ (p - 1) % p = 1 := by
  have h2 := hp.1
  have ha : 0 < a := Nat.pos_of_ne_zero (fun e => h (by rw [e]; exact Nat.dvd_zero p))
  have h1 := pm_fermat hp a
  have e : a ^ p = a * a ^ (p - 1) := by
    have q : p = (p - 1) + 1 := by omega
    calc a ^ p = a ^ ((p - 1) + 1) := by rw [← q]
      _ = a * a ^ (p - 1) := by rw [Nat.pow_succ, Nat.mul_comm]
  have hp1 : 0 < a ^ (p - 1) := Nat.pow_pos_iff.mpr (Or.inl ha)
  have hd : p ∣ a * (a ^ (p - 1) - 1) := by
    rw [Nat.mul_sub, Nat.mul_one, ← e]
    exact Nat.dvd_of_mod_eq_zero (Nat.sub_mod_eq_zero_of_mod_eq h1)
  rcases pm_euclid hp hd with q | q
  · exact absurd q h
  · obtain ⟨c, hc⟩ := q
    have e2 : a ^ (p - 1) = 1 + p * c := by omega
    rw [e2, Nat.add_mul_mod_self_left, Nat.mod_eq_of_lt (by omega)]
theorem pm_pgcd {b p : Nat} (m n : Nat) : b ^ m % p = 1 % p → b ^ n % p = 1 % p → b ^ (Nat.gcd m n) % p = 1 % p := by
  induction m, n using Nat.gcd.induction with
  | H0 n =>
    intro _ h
    rw [Nat.gcd_zero_left]
    exact h
  | H1 m n hm ih =>
    intro h1 h2
    rw [Nat.gcd_rec]
    refine ih ?_ h1
    have e : b ^ n = (b ^ m) ^ (n / m) * b ^ (n % m) := by rw [← Nat.pow_mul, ← Nat.pow_add, Nat.div_add_mod]
    rw [e, Nat.mul_mod, Nat.pow_mod, h1, ← Nat.pow_mod, Nat.one_pow, ← Nat.mul_mod, Nat.one_mul] at h2
    exact h2
theorem pm_dvp {b r : Nat} (h : 1 ≤ r) : b ∣ b ^ r := by
  have q := Nat.pow_dvd_pow b h
  rw [Nat.pow_one] at q
  exact q
theorem pm_pock {n a k r p : Nat} (hn0 : 2 ≤ n) (hr : pm_prime r) (hp : pm_prime p) (hpn : p ∣ n) (h1 : a ^ (r * k) % n = 1) (h2 : Nat.gcd (a ^ k % n + n - 1) n = 1) : r ∣ p - 1 := by
  apply Classical.byContradiction
  intro hd
  have hp2 := hp.1
  have hr2 := hr.1
  have hb : (a ^ k) ^ r % p = 1 % p := by
    rw [← Nat.pow_mul, Nat.mul_comm, ← Nat.mod_mod_of_dvd _ hpn, h1]
  have hnp : ¬ p ∣ a ^ k := by
    intro q
    have q2 := Nat.mod_eq_zero_of_dvd (Nat.dvd_trans q (pm_dvp (b := a ^ k) (r := r) (by omega)))
    rw [hb, Nat.mod_eq_of_lt (by omega)] at q2
    omega
  have hf : (a ^ k) ^ (p - 1) % p = 1 % p := by
    rw [pm_fermat1 hp hnp, Nat.mod_eq_of_lt (by omega)]
  have hg := pm_pgcd r (p - 1) hb hf
  have hc : Nat.gcd r (p - 1) = 1 := pm_cop hr hd
  rw [hc, Nat.pow_one] at hg
  have h3 : (a ^ k % n) % p = 1 % p := by rw [Nat.mod_mod_of_dvd _ hpn]; exact hg
  have h4 : p ∣ a ^ k % n + n - 1 := by
    obtain ⟨c, hc⟩ := hpn
    have h5 := Nat.div_add_mod (a ^ k % n) p
    have e1 : 1 % p = 1 := Nat.mod_eq_of_lt (by omega)
    rw [h3, e1] at h5
    generalize a ^ k % n = X at *
    refine ⟨X / p + c, ?_⟩
    rw [Nat.mul_add, ← hc]
    omega
  have h6 := Nat.dvd_gcd h4 hpn
  rw [h2] at h6
  have h7 := Nat.le_of_dvd (by decide) h6
  omega
theorem pm_exists (m : Nat) : 2 ≤ m → ∃ p, pm_prime p ∧ p ∣ m := by
  induction m using Nat.strongRecOn with
  | ind m ih =>
    intro h
    by_cases hp : pm_prime m
    · exact ⟨m, hp, Nat.dvd_refl m⟩
    · have hx : ∃ d, d ∣ m ∧ d ≠ 1 ∧ d ≠ m := by
        apply Classical.byContradiction
        intro hn
        apply hp
        refine ⟨h, fun d hd => ?_⟩
        by_cases e1 : d = 1
        · exact Or.inl e1
        · by_cases e2 : d = m
          · exact Or.inr e2
          · exact absurd ⟨d, hd, e1, e2⟩ hn
      obtain ⟨d, hd, h1, h2⟩ := hx
      have hle := Nat.le_of_dvd (by omega) hd
      have h0 : d ≠ 0 := by
        intro e
        rw [e] at hd
        have := Nat.eq_zero_of_zero_dvd hd
        omega
      obtain ⟨p, hp, hpd⟩ := ih d (by omega) (by omega)
      exact ⟨p, hp, Nat.dvd_trans hpd hd⟩
theorem pm_two {n : Nat} (hn : 2 ≤ n) (key : ∀ x y, x * y = n → 2 ≤ x → x ≤ y → False) : pm_prime n := by
  refine ⟨hn, fun d hd => ?_⟩
  obtain ⟨e, he⟩ := hd
  by_cases h1 : d = 1
  · exact Or.inl h1
  · by_cases h2 : d = n
    · exact Or.inr h2
    · have d0 : d ≠ 0 := by
        intro q
        rw [q, Nat.zero_mul] at he
        omega
      have e0 : e ≠ 0 := by
        intro q
        rw [q, Nat.mul_zero] at he
        omega
      have e1 : e ≠ 1 := by
        intro q
        rw [q, Nat.mul_one] at he
        exact h2 he.symm
      rcases Nat.le_total d e with q | q
      · exact absurd (key d e he.symm (by omega) q) id
      · exact absurd (key e d (by rw [Nat.mul_comm]; exact he.symm) (by omega) q) id
theorem pm_of {n F : Nat} (hn : 2 ≤ n) (hF : n ≤ F * F) (h : ∀ p, pm_prime p → p ∣ n → F ∣ p - 1) : pm_prime n := by
  refine pm_two hn (fun x y hxy hx hle => ?_)
  obtain ⟨p, hp, hpx⟩ := pm_exists x hx
  have hpn : p ∣ n := by
    rw [← hxy]
    exact Nat.dvd_trans hpx (Nat.dvd_mul_right x y)
  have hp2 := hp.1
  have h1 := Nat.le_of_dvd (by omega) (h p hp hpn)
  have h2 := Nat.le_of_dvd (by omega) hpx
  have h3 : (F + 1) * (F + 1) ≤ p * p := Nat.mul_le_mul (by omega) (by omega)
  have h4 : p * p ≤ x * y := Nat.mul_le_mul h2 (Nat.le_trans h2 hle)
  have h5 : (F + 1) * (F + 1) = F * F + F + F + 1 := by grind
  omega
theorem pm_small {n : Nat} (b : Nat) (hn : 2 ≤ n) (hb : n < b * b) (h : (List.range b).all (fun d => decide (d < 2) || !(n % d == 0)) = true) : pm_prime n := by
  refine pm_two hn (fun x y hxy hx hle => ?_)
  have hx1 : x < b := by
    apply Classical.byContradiction
    intro q
    have h1 : b * b ≤ x * x := Nat.mul_le_mul (by omega) (by omega)
    have h2 : x * x ≤ x * y := Nat.mul_le_mul (Nat.le_refl x) hle
    omega
  have h3 := List.all_eq_true.mp h x (List.mem_range.mpr hx1)
  have h4 : n % x = 0 := by
    rw [← hxy]
    exact Nat.mul_mod_right x y
  rw [h4] at h3
  simp at h3
  omega
/-- a to the e modulo n, by squares -/
def pm_pw (n a : Nat) : Nat → Nat → Nat
  | 0, _ => 1 % n
  | f + 1, e => cond (Nat.beq (e % 2) 0) (pm_pw n a f (e / 2) * pm_pw n a f (e / 2) % n) (pm_pw n a f (e / 2) * pm_pw n a f (e / 2) % n * a % n)
theorem pm_pw_s (n a f e : Nat) : pm_pw n a (f + 1) e = cond (Nat.beq (e % 2) 0) (pm_pw n a f (e / 2) * pm_pw n a f (e / 2) % n) (pm_pw n a f (e / 2) * pm_pw n a f (e / 2) % n * a % n) := rfl
theorem pm_pw_eq (n a : Nat) : ∀ f e, e < 2 ^ f → pm_pw n a f e = a ^ e % n
  | 0, e, h => by
    have e0 : e = 0 := by rw [Nat.pow_zero] at h; omega
    rw [e0, Nat.pow_zero]
    rfl
  | f + 1, e, h => by
    rw [Nat.pow_succ] at h
    have ih := pm_pw_eq n a f (e / 2) (by omega)
    rw [pm_pw_s, ih]
    rcases Nat.mod_two_eq_zero_or_one e with h0 | h0
    · rw [h0]
      show a ^ (e / 2) % n * (a ^ (e / 2) % n) % n = a ^ e % n
      rw [← Nat.mul_mod, ← Nat.pow_add, show e / 2 + e / 2 = e by omega]
    · rw [h0]
      show a ^ (e / 2) % n * (a ^ (e / 2) % n) % n * a % n = a ^ e % n
      rw [← Nat.mul_mod, ← Nat.pow_add, Nat.mod_mul_mod, ← Nat.pow_succ, show (e / 2 + e / 2).succ = e by omega]
def pm_chk (n k r f : Nat) : Bool := Nat.ble 2 n && (Nat.ble (r * k + 1) (2 ^ f) && (Nat.beq (pm_pw n 2 f (r * k)) 1 && Nat.beq (Nat.gcd (pm_pw n 2 f k + n - 1) n) 1))
theorem pm_pockw {n k r p : Nat} (f : Nat) (hr : pm_prime r) (hp : pm_prime p) (hpn : p ∣ n) (h : pm_chk n k r f = true) : r ∣ p - 1 := by
  unfold pm_chk at h
  rw [Bool.and_eq_true, Bool.and_eq_true, Bool.and_eq_true] at h
  obtain ⟨h0, h1, h2, h3⟩ := h
  have h0 := Nat.le_of_ble_eq_true h0
  have h1 := Nat.le_of_ble_eq_true h1
  have h2 := Nat.eq_of_beq_eq_true h2
  have h3 := Nat.eq_of_beq_eq_true h3
  have hk : k ≤ r * k := Nat.le_mul_of_pos_left k (by have := hr.1; omega)
  rw [pm_pw_eq n 2 f _ (by omega)] at h2
  rw [pm_pw_eq n 2 f _ (by omega)] at h3
  exact pm_pock h0 hr hp hpn h2 h3
theorem pm_p0 : pm_prime 7 := pm_small 3 (by decide) (by decide +kernel) (by decide +kernel)
theorem pm_p1 : pm_prime 29 := pm_small 6 (by decide) (by decide +kernel) (by decide +kernel)
theorem pm_p2 : pm_prime 53 := pm_small 8 (by decide) (by decide +kernel) (by decide +kernel)
theorem pm_p3 : pm_prime 1871 := pm_small 44 (by decide) (by decide +kernel) (by decide +kernel)
theorem pm_p4 : pm_prime 9349 := pm_small 97 (by decide) (by decide +kernel) (by decide +kernel)
theorem pm_p5 : pm_prime 20113 := pm_small 142 (by decide) (by decide +kernel) (by decide +kernel)
theorem pm_p6 : pm_prime 28181 := pm_small 168 (by decide) (by decide +kernel) (by decide +kernel)
theorem pm_p7 : pm_prime 96557 := pm_small 311 (by decide) (by decide +kernel) (by decide +kernel)
theorem pm_p8 : pm_prime 120233 := pm_small 347 (by decide) (by decide +kernel) (by decide +kernel)
theorem pm_p9_5 {p : Nat} (hp : pm_prime p) (hd : p ∣ 1206781) : 20113 ∣ p - 1 := pm_pockw (n := 1206781) (k := 60) (r := 20113) 21 pm_p5 hp hd (by decide +kernel)
theorem pm_p9 : pm_prime 1206781 := pm_of (F := 20113) (by decide +kernel) (by decide +kernel) (fun p hp hd => (pm_p9_5 hp hd))
theorem pm_p10_3 {p : Nat} (hp : pm_prime p) (hd : p ∣ 1627771) : 1871 ∣ p - 1 := pm_pockw (n := 1627771) (k := 870) (r := 1871) 21 pm_p3 hp hd (by decide +kernel)
theorem pm_p10 : pm_prime 1627771 := pm_of (F := 1871) (by decide +kernel) (by decide +kernel) (fun p hp hd => (pm_p10_3 hp hd))
theorem pm_p11_9 {p : Nat} (hp : pm_prime p) (hd : p ∣ 7240687) : 1206781 ∣ p - 1 := pm_pockw (n := 7240687) (k := 6) (r := 1206781) 23 pm_p9 hp hd (by decide +kernel)
theorem pm_p11 : pm_prime 7240687 := pm_of (F := 1206781) (by decide +kernel) (by decide +kernel) (fun p hp hd => (pm_p11_9 hp hd))
theorem pm_p12_4 {p : Nat} (hp : pm_prime p) (hd : p ∣ 44706919) : 9349 ∣ p - 1 := pm_pockw (n := 44706919) (k := 4782) (r := 9349) 26 pm_p4 hp hd (by decide +kernel)
theorem pm_p12 : pm_prime 44706919 := pm_of (F := 9349) (by decide +kernel) (by decide +kernel) (fun p hp hd => (pm_p12_4 hp hd))
theorem pm_p13_2 {p : Nat} (hp : pm_prime p) (hd : p ∣ 107590001) : 53 ∣ p - 1 := pm_pockw (n := 107590001) (k := 2030000) (r := 53) 27 pm_p2 hp hd (by decide +kernel)
theorem pm_p13_1 {p : Nat} (hp : pm_prime p) (hd : p ∣ 107590001) : 29 ∣ p - 1 := pm_pockw (n := 107590001) (k := 3710000) (r := 29) 27 pm_p1 hp hd (by decide +kernel)
theorem pm_p13_0 {p : Nat} (hp : pm_prime p) (hd : p ∣ 107590001) : 7 ∣ p - 1 := pm_pockw (n := 107590001) (k := 15370000) (r := 7) 27 pm_p0 hp hd (by decide +kernel)
theorem pm_p13 : pm_prime 107590001 := by
  refine pm_of (F := 10759) (by decide +kernel) (by decide +kernel) (fun p hp hd => ?_)
  have h0 : 53 ∣ p - 1 := pm_p13_2 hp hd
  have h1 : 1537 ∣ p - 1 := by
    rw [show 1537 = 53 * 29 by decide +kernel]
    exact Nat.Coprime.mul_dvd_of_dvd_of_dvd (show Nat.gcd 53 29 = 1 by decide +kernel) h0 (pm_p13_1 hp hd)
  have h2 : 10759 ∣ p - 1 := by
    rw [show 10759 = 1537 * 7 by decide +kernel]
    exact Nat.Coprime.mul_dvd_of_dvd_of_dvd (show Nat.gcd 1537 7 = 1 by decide +kernel) h1 (pm_p13_0 hp hd)
  exact h2
theorem pm_p14_6 {p : Nat} (hp : pm_prime p) (hd : p ∣ 545358713) : 28181 ∣ p - 1 := pm_pockw (n := 545358713) (k := 19352) (r := 28181) 30 pm_p6 hp hd (by decide +kernel)
theorem pm_p14 : pm_prime 545358713 := pm_of (F := 28181) (by decide +kernel) (by decide +kernel) (fun p hp hd => (pm_p14_6 hp hd))
theorem pm_p15_10 {p : Nat} (hp : pm_prime p) (hd : p ∣ 297159362677) : 1627771 ∣ p - 1 := pm_pockw (n := 297159362677) (k := 182556) (r := 1627771) 39 pm_p10 hp hd (by decide +kernel)
theorem pm_p15 : pm_prime 297159362677 := pm_of (F := 1627771) (by decide +kernel) (by decide +kernel) (fun p hp hd => (pm_p15_10 hp hd))
theorem pm_p16_12 {p : Nat} (hp : pm_prime p) (hd : p ∣ 174723607534414371449) : 44706919 ∣ p - 1 := pm_pockw (n := 174723607534414371449) (k := 3908200597192) (r := 44706919) 68 pm_p12 hp hd (by decide +kernel)
theorem pm_p16_8 {p : Nat} (hp : pm_prime p) (hd : p ∣ 174723607534414371449) : 120233 ∣ p - 1 := pm_pockw (n := 174723607534414371449) (k := 1453208416444856) (r := 120233) 68 pm_p8 hp hd (by decide +kernel)
theorem pm_p16 : pm_prime 174723607534414371449 := by
  refine pm_of (F := 5375246992127) (by decide +kernel) (by decide +kernel) (fun p hp hd => ?_)
  have h0 : 44706919 ∣ p - 1 := pm_p16_12 hp hd
  have h1 : 5375246992127 ∣ p - 1 := by
    rw [show 5375246992127 = 44706919 * 120233 by decide +kernel]
    exact Nat.Coprime.mul_dvd_of_dvd_of_dvd (show Nat.gcd 44706919 120233 = 1 by decide +kernel) h0 (pm_p16_8 hp hd)
  exact h1
theorem pm_p17_15 {p : Nat} (hp : pm_prime p) (hd : p ∣ 29047611873442575647497758179) : 297159362677 ∣ p - 1 := pm_pockw (n := 29047611873442575647497758179) (k := 97750956294169114) (r := 297159362677) 95 pm_p15 hp hd (by decide +kernel)
theorem pm_p17_14 {p : Nat} (hp : pm_prime p) (hd : p ∣ 29047611873442575647497758179) : 545358713 ∣ p - 1 := pm_pockw (n := 29047611873442575647497758179) (k := 53263313083699784306) (r := 545358713) 95 pm_p14 hp hd (by decide +kernel)
theorem pm_p17 : pm_prime 29047611873442575647497758179 := by
  refine pm_of (F := 162058447585428954701) (by decide +kernel) (by decide +kernel) (fun p hp hd => ?_)
  have h0 : 297159362677 ∣ p - 1 := pm_p17_15 hp hd
  have h1 : 162058447585428954701 ∣ p - 1 := by
    rw [show 162058447585428954701 = 297159362677 * 545358713 by decide +kernel]
    exact Nat.Coprime.mul_dvd_of_dvd_of_dvd (show Nat.gcd 297159362677 545358713 = 1 by decide +kernel) h0 (pm_p17_14 hp hd)
  exact h1
theorem pm_p18_17 {p : Nat} (hp : pm_prime p) (hd : p ∣ 341948486974166000522343609283189) : 29047611873442575647497758179 ∣ p - 1 := pm_pockw (n := 341948486974166000522343609283189) (k := 11772) (r := 29047611873442575647497758179) 109 pm_p17 hp hd (by decide +kernel)
theorem pm_p18 : pm_prime 341948486974166000522343609283189 := pm_of (F := 29047611873442575647497758179) (by decide +kernel) (by decide +kernel) (fun p hp hd => (pm_p18_17 hp hd))
theorem pm_p19_13 {p : Nat} (hp : pm_prime p) (hd : p ∣ 255515944373312847190720520512484175977) : 107590001 ∣ p - 1 := pm_pockw (n := 255515944373312847190720520512484175977) (k := 2374904191824599455024826335976) (r := 107590001) 128 pm_p13 hp hd (by decide +kernel)
theorem pm_p19_11 {p : Nat} (hp : pm_prime p) (hd : p ∣ 255515944373312847190720520512484175977) : 7240687 ∣ p - 1 := pm_pockw (n := 255515944373312847190720520512484175977) (k := 35288908963101546467996824129048) (r := 7240687) 128 pm_p11 hp hd (by decide +kernel)
theorem pm_p19_7 {p : Nat} (hp : pm_prime p) (hd : p ∣ 255515944373312847190720520512484175977) : 96557 ∣ p - 1 := pm_pockw (n := 255515944373312847190720520512484175977) (k := 2646270538369179315748423423599368) (r := 96557) 128 pm_p7 hp hd (by decide +kernel)
theorem pm_p19 : pm_prime 255515944373312847190720520512484175977 := by
  refine pm_of (F := 75220367286300824659) (by decide +kernel) (by decide +kernel) (fun p hp hd => ?_)
  have h0 : 107590001 ∣ p - 1 := pm_p19_13 hp hd
  have h1 : 779025521570687 ∣ p - 1 := by
    rw [show 779025521570687 = 107590001 * 7240687 by decide +kernel]
    exact Nat.Coprime.mul_dvd_of_dvd_of_dvd (show Nat.gcd 107590001 7240687 = 1 by decide +kernel) h0 (pm_p19_11 hp hd)
  have h2 : 75220367286300824659 ∣ p - 1 := by
    rw [show 75220367286300824659 = 779025521570687 * 96557 by decide +kernel]
    exact Nat.Coprime.mul_dvd_of_dvd_of_dvd (show Nat.gcd 779025521570687 96557 = 1 by decide +kernel) h1 (pm_p19_7 hp hd)
  exact h2
theorem pm_p20_19 {p : Nat} (hp : pm_prime p) (hd : p ∣ 205115282021455665897114700593932402728804164701536103180137503955397371) : 255515944373312847190720520512484175977 ∣ p - 1 := pm_pockw (n := 205115282021455665897114700593932402728804164701536103180137503955397371) (k := 802749442992798076634733441528810) (r := 255515944373312847190720520512484175977) 237 pm_p19 hp hd (by decide +kernel)
theorem pm_p20 : pm_prime 205115282021455665897114700593932402728804164701536103180137503955397371 := pm_of (F := 255515944373312847190720520512484175977) (by decide +kernel) (by decide +kernel) (fun p hp hd => (pm_p20_19 hp hd))
theorem pm_p21_18 {p : Nat} (hp : pm_prime p) (hd : p ∣ 115792089237316195423570985008687907852837564279074904382605163141518161494337) : 341948486974166000522343609283189 ∣ p - 1 := pm_pockw (n := 115792089237316195423570985008687907852837564279074904382605163141518161494337) (k := 338624364920977752681389262317185522840540224) (r := 341948486974166000522343609283189) 256 pm_p18 hp hd (by decide +kernel)
theorem pm_p21_16 {p : Nat} (hp : pm_prime p) (hd : p ∣ 115792089237316195423570985008687907852837564279074904382605163141518161494337) : 174723607534414371449 ∣ p - 1 := pm_pockw (n := 115792089237316195423570985008687907852837564279074904382605163141518161494337) (k := 662715765037699607481235088557493206623080876315205958464) (r := 174723607534414371449) 256 pm_p16 hp hd (by decide +kernel)
theorem pm_p21 : pm_prime 115792089237316195423570985008687907852837564279074904382605163141518161494337 := by
  refine pm_of (F := 59746473235060985162263246577491932178200490877270861) (by decide +kernel) (by decide +kernel) (fun p hp hd => ?_)
  have h0 : 341948486974166000522343609283189 ∣ p - 1 := pm_p21_18 hp hd
  have h1 : 59746473235060985162263246577491932178200490877270861 ∣ p - 1 := by
    rw [show 59746473235060985162263246577491932178200490877270861 = 341948486974166000522343609283189 * 174723607534414371449 by decide +kernel]
    exact Nat.Coprime.mul_dvd_of_dvd_of_dvd (show Nat.gcd 341948486974166000522343609283189 174723607534414371449 = 1 by decide +kernel) h0 (pm_p21_16 hp hd)
  exact h1
theorem pm_p22_20 {p : Nat} (hp : pm_prime p) (hd : p ∣ 115792089237316195423570985008687907853269984665640564039457584007908834671663) : 205115282021455665897114700593932402728804164701536103180137503955397371 ∣ p - 1 := pm_pockw (n := 115792089237316195423570985008687907853269984665640564039457584007908834671663) (k := 564522) (r := 205115282021455665897114700593932402728804164701536103180137503955397371) 256 pm_p20 hp hd (by decide +kernel)
theorem pm_p22 : pm_prime 115792089237316195423570985008687907853269984665640564039457584007908834671663 := pm_of (F := 205115282021455665897114700593932402728804164701536103180137503955397371) (by decide +kernel) (by decide +kernel) (fun p hp hd => (pm_p22_20 hp hd))
/-- FIELD -/
def kP : Nat := 115792089237316195423570985008687907853269984665640564039457584007908834671663
/-- ORDER -/
def kN : Nat := 115792089237316195423570985008687907852837564279074904382605163141518161494337
theorem kP_val : kP = 115792089237316195423570985008687907853269984665640564039457584007908834671663 := rfl
theorem kN_val : kN = 115792089237316195423570985008687907852837564279074904382605163141518161494337 := rfl
theorem kP_prime : pm_prime kP := pm_p22
theorem kN_prime : pm_prime kN := pm_p21
end
section
/-! Numbers as rows of 32-bit words: kw_d V j is word j of V, kw_s V k x is V with word k put to x (own rows). -/
def kw_M (j : Nat) : Nat := 2 ^ (32 * j)
def kw_d (V j : Nat) : Nat := V / kw_M j % 4294967296
def kw_s (V k x : Nat) : Nat := V - kw_M k * kw_d V k + kw_M k * x
theorem kw_M_0 : kw_M 0 = 1 := rfl
theorem kw_M_s (j : Nat) : kw_M (j + 1) = kw_M j * 4294967296 := by
  unfold kw_M
  rw [Nat.mul_add, Nat.pow_add]
theorem kw_M_pos (j : Nat) : 0 < kw_M j := Nat.pow_pos_iff.mpr (Or.inl (by decide))
theorem kw_M_add (i j : Nat) : kw_M (i + j) = kw_M i * kw_M j := by
  unfold kw_M
  rw [Nat.mul_add, Nat.pow_add]
theorem kw_M_8 : kw_M 8 = 115792089237316195423570985008687907853269984665640564039457584007913129639936 := by decide +kernel
theorem kw_M_16 : kw_M 16 = kw_M 8 * kw_M 8 := kw_M_add 8 8
theorem kw_d_lt (V j : Nat) : kw_d V j < 4294967296 := Nat.mod_lt _ (by decide)
theorem kw_d_lo (V j : Nat) : V % kw_M (j + 1) = V % kw_M j + kw_M j * kw_d V j := by
  rw [kw_M_s, Nat.mod_mul]
  rfl
theorem kw_d_div (V j : Nat) : V / kw_M j = kw_d V j + 4294967296 * (V / kw_M (j + 1)) := by
  rw [kw_M_s, ← Nat.div_div_eq_div_mul]
  unfold kw_d
  have := Nat.div_add_mod (V / kw_M j) 4294967296
  omega
/-- a number, cut at word j -/
theorem kw_d_cut (V j : Nat) : V = V % kw_M j + kw_M j * (kw_d V j + 4294967296 * (V / kw_M (j + 1))) := by
  rw [← kw_d_div]
  have := Nat.div_add_mod V (kw_M j)
  omega
theorem kw_s_cut (V k x : Nat) : kw_s V k x = V % kw_M k + kw_M k * (x + 4294967296 * (V / kw_M (k + 1))) := by
  have h := kw_d_cut V k
  unfold kw_s
  generalize kw_M k = M at *
  generalize V % M = lo at *
  generalize V / kw_M (k + 1) = hi at *
  generalize kw_d V k = w at *
  rw [Nat.mul_add] at h ⊢
  omega
theorem kw_d_ws_same (V k : Nat) {x : Nat} (hx : x < 4294967296) : kw_d (kw_s V k x) k = x := by
  rw [kw_s_cut]
  unfold kw_d
  have hM := kw_M_pos k
  rw [Nat.add_mul_div_left _ _ hM, Nat.div_eq_of_lt (Nat.mod_lt V hM), Nat.zero_add, Nat.add_mul_mod_self_left, Nat.mod_eq_of_lt hx]
theorem kw_M_le {i j : Nat} (h : i ≤ j) : ∃ z, kw_M j = kw_M i * z := ⟨kw_M (j - i), by rw [← kw_M_add]; congr 1; omega⟩
theorem kw_d_mod {V j k : Nat} (h : j < k) : kw_d (V % kw_M k) j = kw_d V j := by
  obtain ⟨z, hz⟩ := kw_M_le (show j + 1 ≤ k by omega)
  unfold kw_d
  rw [hz, kw_M_s, Nat.mul_assoc, Nat.mod_mul_right_div_self, Nat.mod_mul_right_mod]
theorem kw_d_add_hi (a y : Nat) {j k : Nat} (h : j < k) : kw_d (a + kw_M k * y) j = kw_d a j := by
  rw [← kw_d_mod h, Nat.add_mul_mod_self_left, kw_d_mod h]
theorem kw_d_ws_ne (V : Nat) {k j x : Nat} (hx : x < 4294967296) (h : j ≠ k) : kw_d (kw_s V k x) j = kw_d V j := by
  by_cases hj : j < k
  · rw [kw_s_cut, kw_d_add_hi _ _ hj, kw_d_mod hj]
  · have hM := kw_M_pos k
    have e : ∀ W : Nat, kw_d W j = kw_d (W / kw_M (k + 1)) (j - (k + 1)) := by
      intro W
      unfold kw_d
      rw [Nat.div_div_eq_div_mul, ← kw_M_add]
      congr 3
      omega
    rw [e, e V]
    congr 1
    rw [kw_M_s, ← Nat.div_div_eq_div_mul, kw_s_cut, Nat.add_mul_div_left _ _ hM, Nat.div_eq_of_lt (Nat.mod_lt V hM), Nat.zero_add, Nat.add_mul_div_left _ _ (by decide), Nat.div_eq_of_lt hx, Nat.zero_add, kw_M_s]
theorem kw_d_big {V j n : Nat} (h : V < kw_M n) (hj : n ≤ j) : kw_d V j = 0 := by
  obtain ⟨z, hz⟩ := kw_M_le hj
  have hz0 : 0 < z := Nat.pos_of_ne_zero (fun e => by have := kw_M_pos j; rw [hz, e] at this; omega)
  unfold kw_d
  rw [Nat.div_eq_of_lt (Nat.lt_of_lt_of_le h (by rw [hz]; exact Nat.le_mul_of_pos_right _ hz0))]
theorem kw_d_ext {V U : Nat} : ∀ n, (∀ j, j < n → kw_d V j = kw_d U j) → V % kw_M n = U % kw_M n
  | 0, _ => by rw [kw_M_0, Nat.mod_one, Nat.mod_one]
  | n + 1, h => by rw [kw_d_lo, kw_d_lo, kw_d_ext n (fun j hj => h j (by omega)), h n (by omega)]
theorem kw_d_eq {V U n : Nat} (hV : V < kw_M n) (hU : U < kw_M n) (h : ∀ j, j < n → kw_d V j = kw_d U j) : V = U := by
  have e := kw_d_ext n h
  rw [Nat.mod_eq_of_lt hV, Nat.mod_eq_of_lt hU] at e
  exact e
theorem kw_s_lt {V k x n : Nat} (hV : V < kw_M n) (hk : k < n) (hx : x < 4294967296) : kw_s V k x < kw_M n := by
  obtain ⟨z, hz⟩ := kw_M_le (show k + 1 ≤ n by omega)
  have h1 : V / kw_M (k + 1) < z := by
    rw [hz, Nat.mul_comm] at hV
    exact Nat.div_lt_of_lt_mul (by rw [Nat.mul_comm]; exact hV)
  have hM := kw_M_pos k
  have h2 := Nat.mod_lt V hM
  rw [kw_s_cut, hz]
  generalize V / kw_M (k + 1) = hi at *
  rw [kw_M_s k]
  generalize V % kw_M k = lo at *
  generalize kw_M k = M at *
  have h3 : M * (x + 4294967296 * hi) + M ≤ M * (4294967296 * z) := by
    rw [← Nat.mul_succ]
    exact Nat.mul_le_mul (Nat.le_refl M) (by omega)
  rw [Nat.mul_assoc]
  omega
/-- the words from k on stay, the number below word k is what was put there -/
theorem kw_s_lo (V k x : Nat) (hx : x < 4294967296) : kw_s V k x % kw_M (k + 1) = V % kw_M k + kw_M k * x := by
  have e : kw_s V k x % kw_M k = V % kw_M k := by rw [kw_s_cut, Nat.add_mul_mod_self_left, Nat.mod_mod]
  rw [kw_d_lo, kw_d_ws_same V k hx, e]
/-! sums and differences, word by word -/
def kw_c (A B j : Nat) : Nat := (A % kw_M j + B % kw_M j) / kw_M j
theorem kw_c_0 (A B : Nat) : kw_c A B 0 = 0 := by
  unfold kw_c
  rw [kw_M_0, Nat.mod_one, Nat.mod_one]
theorem kw_c_le (A B j : Nat) : kw_c A B j ≤ 1 := by
  have hM := kw_M_pos j
  have h1 := Nat.mod_lt A hM
  have h2 := Nat.mod_lt B hM
  unfold kw_c
  have h3 : (A % kw_M j + B % kw_M j) / kw_M j < 2 := Nat.div_lt_of_lt_mul (by omega)
  omega
theorem kw_c_step (A B j : Nat) : (kw_d A j + kw_d B j + kw_c A B j) / 4294967296 = kw_c A B (j + 1) ∧ (kw_d A j + kw_d B j + kw_c A B j) % 4294967296 = kw_d (A + B) j := by
  have hM := kw_M_pos j
  constructor
  · have e : A % kw_M (j + 1) + B % kw_M (j + 1) = (A % kw_M j + B % kw_M j) + kw_M j * (kw_d A j + kw_d B j) := by
      rw [kw_d_lo, kw_d_lo, Nat.mul_add]
      omega
    show _ = (A % kw_M (j + 1) + B % kw_M (j + 1)) / kw_M (j + 1)
    rw [e, kw_M_s, ← Nat.div_div_eq_div_mul, Nat.add_mul_div_left _ _ hM]
    show _ = (kw_c A B j + (kw_d A j + kw_d B j)) / 4294967296
    congr 1
    omega
  · have e : (A + B) / kw_M j = kw_c A B j + (A / kw_M j + B / kw_M j) := by
      have hA := Nat.div_add_mod A (kw_M j)
      have hB := Nat.div_add_mod B (kw_M j)
      have e2 : A + B = (A % kw_M j + B % kw_M j) + kw_M j * (A / kw_M j + B / kw_M j) := by
        rw [Nat.mul_add]
        omega
      unfold kw_c
      rw [← Nat.add_mul_div_left _ _ hM, ← e2]
    show _ = (A + B) / kw_M j % 4294967296
    rw [e]
    unfold kw_d
    omega
theorem kw_c_end {A B : Nat} (hA : A < kw_M 8) (hB : B < kw_M 8) : kw_c A B 8 = (A + B) / kw_M 8 := by
  unfold kw_c
  rw [Nat.mod_eq_of_lt hA, Nat.mod_eq_of_lt hB]
def kw_b (A B j : Nat) : Nat := if A % kw_M j < B % kw_M j then 1 else 0
theorem kw_b_0 (A B : Nat) : kw_b A B 0 = 0 := by
  unfold kw_b
  rw [kw_M_0, Nat.mod_one, Nat.mod_one]
  rfl
theorem kw_b_le (A B j : Nat) : kw_b A B j ≤ 1 := by
  unfold kw_b
  split <;> omega
theorem kw_b_step (A B j : Nat) : (if kw_d A j < kw_d B j + kw_b A B j then 1 else 0) = kw_b A B (j + 1) := by
  have hM := kw_M_pos j
  have h1 := Nat.mod_lt A hM
  have h2 := Nat.mod_lt B hM
  show _ = if A % kw_M (j + 1) < B % kw_M (j + 1) then 1 else 0
  rw [kw_d_lo, kw_d_lo]
  unfold kw_b
  generalize kw_d A j = a
  generalize kw_d B j = b
  generalize A % kw_M j = a0 at *
  generalize B % kw_M j = b0 at *
  generalize kw_M j = M at *
  have key : (a < b + (if a0 < b0 then 1 else 0)) ↔ a0 + M * a < b0 + M * b := by
    rcases Nat.lt_trichotomy a b with h | h | h
    · have h3 : M * (a + 1) ≤ M * b := Nat.mul_le_mul (Nat.le_refl M) h
      rw [Nat.mul_add, Nat.mul_one] at h3
      constructor
      · intro _; omega
      · intro _; omega
    · subst h
      split <;> constructor <;> intro _ <;> omega
    · have h3 : M * (b + 1) ≤ M * a := Nat.mul_le_mul (Nat.le_refl M) h
      rw [Nat.mul_add, Nat.mul_one] at h3
      constructor
      · intro h4
        split at h4 <;> omega
      · intro _; omega
  by_cases h : a < b + (if a0 < b0 then 1 else 0)
  · rw [if_pos h, if_pos (key.mp h)]
  · rw [if_neg h, if_neg (fun q => h (key.mpr q))]
theorem kw_b_word (A B X j : Nat) (hX : B ≤ kw_M (j + 1) * X) : (kw_d A j + 4294967296 - kw_d B j - kw_b A B j) % 4294967296 = kw_d (A + kw_M (j + 1) * X - B) j := by
  have hM := kw_M_pos j
  have h1 := Nat.mod_lt A hM
  have h2 := Nat.mod_lt B hM
  have cA := kw_d_cut A j
  have cB := kw_d_cut B j
  have lA := kw_d_lt A j
  have lB := kw_d_lt B j
  have hq : (A + kw_M (j + 1) * X - B) / kw_M j % 4294967296 = (kw_d A j + 4294967296 - kw_d B j - kw_b A B j) % 4294967296 := by
    rw [kw_M_s] at hX ⊢
    rw [Nat.mul_assoc] at hX ⊢
    have hbX : B / kw_M j ≤ 4294967296 * X := by
      have h5 := Nat.div_add_mod B (kw_M j)
      apply Nat.le_of_mul_le_mul_left _ hM
      omega
    rw [kw_d_div B j] at hbX
    unfold kw_b
    generalize kw_d A j = a at *
    generalize kw_d B j = b at *
    generalize A % kw_M j = a0 at *
    generalize B % kw_M j = b0 at *
    generalize A / (kw_M j * 4294967296) = ah at *
    generalize hbh : B / kw_M (j + 1) = bh at *
    generalize A / kw_M (j + 1) = ah at *
    generalize kw_M j = M at *
    by_cases hlt : a0 < b0
    · rw [if_pos hlt]
      have hpos : b + 4294967296 * bh + 1 ≤ a + 4294967296 * ah + 4294967296 * X := by
        apply Classical.byContradiction
        intro hn
        have h6 : M * (4294967296 * X) ≤ M * (b + 4294967296 * bh) := Nat.mul_le_mul (Nat.le_refl M) (by omega)
        omega
      have e : A + M * (4294967296 * X) - B = (a0 + M - b0) + M * (a + 4294967296 * ah + 4294967296 * X - (b + 4294967296 * bh) - 1) := by
        rw [Nat.mul_sub, Nat.mul_sub, Nat.mul_add, Nat.mul_one]
        have h7 : M * (b + 4294967296 * bh + 1) ≤ M * (a + 4294967296 * ah + 4294967296 * X) := Nat.mul_le_mul (Nat.le_refl M) hpos
        rw [Nat.mul_add, Nat.mul_one, Nat.mul_add M (a + 4294967296 * ah)] at h7
        omega
      rw [e, Nat.add_mul_div_left _ _ hM, Nat.div_eq_of_lt (by omega)]
      omega
    · rw [if_neg hlt]
      have e : A + M * (4294967296 * X) - B = (a0 - b0) + M * (a + 4294967296 * ah + 4294967296 * X - (b + 4294967296 * bh)) := by
        rw [Nat.mul_sub, Nat.mul_add]
        have h7 : M * (b + 4294967296 * bh) ≤ M * (a + 4294967296 * ah + 4294967296 * X) := Nat.mul_le_mul (Nat.le_refl M) (by omega)
        rw [Nat.mul_add M (a + 4294967296 * ah)] at h7
        omega
      rw [e, Nat.add_mul_div_left _ _ hM, Nat.div_eq_of_lt (by omega)]
      omega
  unfold kw_d at hq ⊢
  exact hq.symm
/-- A less B, around 2^256 -/
def kw_sub (A B : Nat) : Nat := (A + kw_M 8 - B) % kw_M 8
theorem kw_sub_lt (A B : Nat) : kw_sub A B < kw_M 8 := Nat.mod_lt _ (kw_M_pos 8)
theorem kw_sub_word {A B j : Nat} (hB : B < kw_M 8) (hj : j < 8) : (kw_d A j + 4294967296 - kw_d B j - kw_b A B j) % 4294967296 = kw_d (kw_sub A B) j := by
  obtain ⟨z, hz⟩ := kw_M_le (show j + 1 ≤ 8 by omega)
  unfold kw_sub
  rw [kw_d_mod hj, hz]
  rw [hz] at hB
  exact kw_b_word A B z j (by omega)
theorem kw_b_end {A B : Nat} (hA : A < kw_M 8) (hB : B < kw_M 8) : kw_b A B 8 = if A < B then 1 else 0 := by
  unfold kw_b
  rw [Nat.mod_eq_of_lt hA, Nat.mod_eq_of_lt hB]
end
section
/-! The wb_ rows: pasted from the kit (laws/BITS.to-paste), as it allows. -/
/-! ===== lN n to 2^64: shifts, and, or, masks, one bit ===== -/
theorem wb_tb (n : Nat) : (lN n).toBitVec = BitVec.ofNat 64 n := rfl
theorem wb_inj {a b : Int64} (h : a.toBitVec = b.toBitVec) : a = b := Int64.toBitVec_inj.mp h
theorem wb_tn {n : Nat} (h : n < 2 ^ 64) : (lN n).toBitVec.toNat = n := by rw [wb_tb, BitVec.toNat_ofNat, Nat.mod_eq_of_lt h]
theorem wb_of (x : Int64) : ∃ n, n < 2 ^ 64 ∧ x = lN n := ⟨x.toBitVec.toNat, x.toBitVec.isLt, wb_inj (by rw [wb_tb]; simp)⟩
theorem wb_of32 (x : Int32) : ∃ n, n < 2 ^ 32 ∧ x = nI n := ⟨x.toBitVec.toNat, x.toBitVec.isLt, Int32.toBitVec_inj.mp (by show _ = BitVec.ofNat 32 _; simp)⟩
theorem wb_c : ∀ k, k < 64 → ((nI k).toInt64 &&& 63) = lN k := by decide +kernel
theorem wb_cu : ∀ k, k < 64 → ((nI k).toInt64.toUInt64 &&& Int64.toUInt64 63) = UInt64.ofNat k := by decide +kernel
theorem wb_sm : ∀ k, k < 64 → (BitVec.ofNat 64 k).smod 64 = BitVec.ofNat 64 k := by decide +kernel
theorem wb_pw {a b : Nat} (h : a ≤ b) : 2 ^ b = 2 ^ a * 2 ^ (b - a) := by rw [← Nat.pow_add]; congr 1; omega
theorem wb_lt2 {a b : Nat} (h : a < b) : 2 ^ a < 2 ^ b := Nat.pow_lt_pow_right (by decide) h
theorem wb_mod (n : Nat) : lN n = lN (n % 2 ^ 64) := wb_inj (by rw [wb_tb, wb_tb]; apply BitVec.eq_of_toNat_eq; rw [BitVec.toNat_ofNat, BitVec.toNat_ofNat, Nat.mod_mod])
theorem wb_shr {n k : Nat} (hn : n < 2 ^ 64) (hk : k < 64) : ((lN n).toUInt64 >>> ((nI k).toInt64.toUInt64 &&& Int64.toUInt64 63)).toInt64 = lN (n / 2 ^ k) := by
  rw [wb_cu k hk]
  apply wb_inj
  apply BitVec.eq_of_toNat_eq
  show ((lN n).toUInt64 >>> UInt64.ofNat k).toNat = (BitVec.ofNat 64 _).toNat
  have h1 : (UInt64.ofNat k).toNat = k := by
    show (BitVec.ofNat 64 k).toNat = k
    rw [BitVec.toNat_ofNat, Nat.mod_eq_of_lt (by omega)]
  have h2 : (lN n).toUInt64.toNat = n := wb_tn hn
  rw [UInt64.toNat_shiftRight, h1, h2, Nat.mod_eq_of_lt hk, Nat.shiftRight_eq_div_pow, BitVec.toNat_ofNat, Nat.mod_eq_of_lt (Nat.lt_of_le_of_lt (Nat.div_le_self _ _) hn)]
theorem wb_shl (n : Nat) {k : Nat} (hk : k < 64) : lN n <<< ((nI k).toInt64 &&& 63) = lN (n * 2 ^ k) := by
  rw [wb_c k hk]
  apply wb_inj
  rw [Int64.toBitVec_shiftLeft, wb_tb, wb_tb, wb_tb, wb_sm k hk]
  apply BitVec.eq_of_toNat_eq
  rw [BitVec.shiftLeft_eq', BitVec.toNat_shiftLeft, BitVec.toNat_ofNat, BitVec.toNat_ofNat, BitVec.toNat_ofNat, Nat.mod_eq_of_lt (show k < 2 ^ 64 by omega), Nat.shiftLeft_eq, Nat.mul_mod, Nat.mod_mod, ← Nat.mul_mod]
theorem wb_and {a b : Nat} (ha : a < 2 ^ 64) (hb : b < 2 ^ 64) : lN a &&& lN b = lN (a &&& b) := by
  apply wb_inj
  rw [Int64.toBitVec_and, wb_tb, wb_tb, wb_tb]
  apply BitVec.eq_of_toNat_eq
  rw [BitVec.toNat_and, BitVec.toNat_ofNat, BitVec.toNat_ofNat, BitVec.toNat_ofNat, Nat.mod_eq_of_lt ha, Nat.mod_eq_of_lt hb, Nat.mod_eq_of_lt (Nat.and_lt_two_pow _ hb)]
theorem wb_or {a b : Nat} (ha : a < 2 ^ 64) (hb : b < 2 ^ 64) : lN a ||| lN b = lN (a ||| b) := by
  apply wb_inj
  rw [Int64.toBitVec_or, wb_tb, wb_tb, wb_tb]
  apply BitVec.eq_of_toNat_eq
  rw [BitVec.toNat_or, BitVec.toNat_ofNat, BitVec.toNat_ofNat, BitVec.toNat_ofNat, Nat.mod_eq_of_lt ha, Nat.mod_eq_of_lt hb, Nat.mod_eq_of_lt (Nat.or_lt_two_pow ha hb)]
theorem wb_mask {n k : Nat} (hn : n < 2 ^ 64) (hk : k < 64) : lN n &&& lN (2 ^ k - 1) = lN (n % 2 ^ k) := by
  rw [wb_and hn (by have := wb_lt2 hk; omega), Nat.and_two_pow_sub_one_eq_mod]
theorem wb_a1 {n : Nat} (hn : n < 2 ^ 64) : lN n &&& 1 = lN (n % 2) := wb_mask (k := 1) hn (by decide)
theorem wb_bit {n k : Nat} (hn : n < 2 ^ 64) (hk : k < 64) : ((lN n).toUInt64 >>> ((nI k).toInt64.toUInt64 &&& Int64.toUInt64 63)).toInt64 &&& 1 = lN (n / 2 ^ k % 2) := by
  rw [wb_shr hn hk, wb_a1 (Nat.lt_of_le_of_lt (Nat.div_le_self _ _) hn)]
/-! Rows of words in the heap, and the machine's rules over them (own rows). -/
theorem kq_lsub {a b : Nat} (hb : b ≤ 18446744073709551616) : lN a - lN b = lN (a + 18446744073709551616 - b) := by
  apply wb_inj
  rw [Int64.toBitVec_sub, wb_tb, wb_tb, wb_tb]
  apply BitVec.eq_of_toNat_eq
  rw [BitVec.toNat_sub, BitVec.toNat_ofNat, BitVec.toNat_ofNat, BitVec.toNat_ofNat]
  omega
theorem kq_mask (n : Nat) : lN n &&& lN 4294967295 = lN (n % 4294967296) := by
  rw [wb_mod n]
  have h := wb_mask (n := n % 2 ^ 64) (k := 32) (Nat.mod_lt _ (by decide)) (by decide)
  rw [show (4294967295 : Nat) = 2 ^ 32 - 1 by decide, h]
  congr 1
  omega
theorem kq_ushr32 {n : Nat} (hn : n < 18446744073709551616) : ((lN n).toUInt64 >>> ((nI 32).toInt64.toUInt64 &&& Int64.toUInt64 63)).toInt64 = lN (n / 4294967296) := wb_shr (k := 32) (by omega) (by decide)
theorem kq_ushr63 {n : Nat} (hn : n < 18446744073709551616) : ((lN n).toUInt64 >>> ((nI 63).toInt64.toUInt64 &&& Int64.toUInt64 63)).toInt64 = lN (n / 9223372036854775808) := wb_shr (k := 63) (by omega) (by decide)
theorem kq_cmp_eq {a b : Nat} (ha : a < 9223372036854775808) (hb : b < 9223372036854775808) : lg_cmp (lN a) (lN b) = 0 ↔ a = b := by
  unfold lg_cmp
  have h1 := pk_lLT (a := b) (b := a) (by omega) (by omega)
  have h2 := pk_lEQ (a := a) (b := b) (by omega) (by omega)
  by_cases h : b < a
  · rw [if_pos (show lN a > lN b from h1.mpr h)]
    exact ⟨fun q => absurd q (by decide), fun q => by omega⟩
  · rw [if_neg (show ¬ lN a > lN b from fun q => h (h1.mp q))]
    by_cases h3 : a = b
    · rw [if_pos (h2.mpr h3)]
      exact ⟨fun _ => h3, fun _ => rfl⟩
    · rw [if_neg (fun q => h3 (h2.mp q))]
      exact ⟨fun q => absurd q (by decide), fun q => absurd q h3⟩
theorem kq_cmp_lt {a b : Nat} (ha : a < 9223372036854775808) (hb : b < 9223372036854775808) : lg_cmp (lN a) (lN b) < 0 ↔ a < b := by
  unfold lg_cmp
  have h1 := pk_lLT (a := b) (b := a) (by omega) (by omega)
  have h2 := pk_lEQ (a := a) (b := b) (by omega) (by omega)
  by_cases h : b < a
  · rw [if_pos (show lN a > lN b from h1.mpr h)]
    exact ⟨fun q => absurd q (by decide), fun q => by omega⟩
  · rw [if_neg (show ¬ lN a > lN b from fun q => h (h1.mp q))]
    by_cases h3 : a = b
    · rw [if_pos (h2.mpr h3)]
      exact ⟨fun q => absurd q (by decide), fun q => by omega⟩
    · rw [if_neg (fun q => h3 (h2.mp q))]
      exact ⟨fun _ => by omega, fun _ => by decide⟩
/-- a boolean answer -/
def kq_z (b : Bool) : Int32 := if b = true then 1 else 0
/-- a row of n words, as longs and as ints -/
def kq_L (c : ClassId) (n V : Nat) : Cell := arrV c n (fun j => .long (lN (kw_d V j)))
def kq_I (c : ClassId) (n V : Nat) : Cell := arrV c n (fun j => .int (nI (kw_d V j)))
/-- an array that is read: its first n places hold f -/
def kq_r (U : State) (ty : FieldType) (H : Heap) (a n : Nat) (f : Nat → Value) : Prop := ∃ cell : Cell, H[a]? = some cell ∧ U.isArrayOf cell ty ∧ cell.vm ≠ .unknown ∧ n ≤ cell.slots.size ∧ ∀ j : Nat, j < n → cell.slots[j]? = some (f j)
abbrev kq_sL (U : State) (H : Heap) (a n V : Nat) : Prop := kq_r U .long H a n (fun j => .long (lN (kw_d V j)))
abbrev kq_sI (U : State) (H : Heap) (a n V : Nat) : Prop := kq_r U .int H a n (fun j => .int (nI (kw_d V j)))
/-- the heap with one cell put anew -/
def kq_set (H : Heap) (a : Nat) (x : Cell) : Heap := H.setIfInBounds a x
theorem kq_set_size (H : Heap) (a : Nat) (x : Cell) : (kq_set H a x).size = H.size := by simp [kq_set]
theorem kq_lt {H : Heap} {a : Nat} {x : Cell} (h : H[a]? = some x) : a < H.size := (Array.getElem?_eq_some_iff.mp h).1
theorem kq_set_at {H : Heap} {a : Nat} {x y : Cell} (h : H[a]? = some y) : (kq_set H a x)[a]? = some x := by
  unfold kq_set
  rw [Array.getElem?_setIfInBounds, if_pos rfl, if_pos (kq_lt h)]
theorem kq_set_ne {H : Heap} {a q : Nat} {x : Cell} (h : q ≠ a) : (kq_set H a x)[q]? = H[q]? := by
  unfold kq_set
  rw [Array.getElem?_setIfInBounds, if_neg (Ne.symm h)]
theorem kq_set_set (H : Heap) (a : Nat) (x y : Cell) : kq_set (kq_set H a x) a y = kq_set H a y := by
  unfold kq_set
  exact Array.setIfInBounds_setIfInBounds _
theorem kq_set_self {H : Heap} {a : Nat} {x : Cell} (h : H[a]? = some x) : kq_set H a x = H := by
  apply Array.ext_getElem?
  intro q
  by_cases e : q = a
  · subst e
    rw [kq_set_at h, h]
  · rw [kq_set_ne e]
theorem kq_is_set {H H1 : Heap} {a : Nat} {x y : Cell} (h : H[a]? = some y) (h1 : H1[a]? = some x) (ho : ∀ q : Nat, q ≠ a → H1[q]? = H[q]?) : H1 = kq_set H a x := by
  apply Array.ext_getElem?
  intro q
  by_cases e : q = a
  · subst e
    rw [kq_set_at h, h1]
  · rw [kq_set_ne e, ho q e]
theorem kq_lN_inj {a b : Nat} (ha : a < 4294967296) (hb : b < 4294967296) (h : lN a = lN b) : a = b := (pk_lEQ (by omega) (by omega)).mp h
theorem kq_nI_inj {a b : Nat} (ha : a < 4294967296) (hb : b < 4294967296) (h : nI a = nI b) : a = b := by
  have h1 := pk_tn (n := a) (by omega)
  have h2 := pk_tn (n := b) (by omega)
  rw [h] at h1
  omega
theorem kq_r.moved {u U : State} {ty : FieldType} {H : Heap} {a n : Nat} {f : Nat → Value} (hvm : u.vm.Alike U.vm) (h : kq_r u ty H a n f) : kq_r U ty H a n f := by
  obtain ⟨cell, h1, h2, h3⟩ := h
  exact ⟨cell, h1, State.isArrayOf_alike hvm h2, h3⟩
theorem kq_r.other {U : State} {ty : FieldType} {H H1 : Heap} {a n : Nat} {f : Nat → Value} (h : kq_r U ty H a n f) (e : H1[a]? = H[a]?) : kq_r U ty H1 a n f := by
  obtain ⟨cell, h1, h2⟩ := h
  exact ⟨cell, by rw [e]; exact h1, h2⟩
theorem kq_r.fewer {U : State} {ty : FieldType} {H : Heap} {a n k : Nat} {f : Nat → Value} (h : kq_r U ty H a n f) (hk : k ≤ n) : kq_r U ty H a k f := by
  obtain ⟨cell, h1, h2, h3, h4, h5⟩ := h
  exact ⟨cell, h1, h2, h3, by omega, fun j hj => h5 j (by omega)⟩
theorem kq_r.ofV {U : State} {ty : FieldType} {H : Heap} {a n : Nat} {c : ClassId} {f : Nat → Value} (hT : ArrOfT U c ty) (h : H[a]? = some (arrV c n f)) : kq_r U ty H a n f :=
  ⟨arrV c n f, h, hT n f, (fun q => by cases q), (by rw [arrV_size]; exact Nat.le_refl n), fun j hj => arrV_read c f hj⟩
theorem kq_r.sameL {U : State} {H : Heap} {a n n1 V V1 : Nat} {c : ClassId} (h : kq_sL U H a n V) (h1 : H[a]? = some (kq_L c n1 V1)) {j : Nat} (hj : j < n) : kw_d V j = kw_d V1 j := by
  obtain ⟨cell, g1, g2, g3, g4, g5⟩ := h
  rw [h1] at g1
  obtain rfl := Option.some.inj g1
  have e := g5 j hj
  have hs : (kq_L c n1 V1).slots.size = n1 := arrV_size c n1 _
  have hr : (kq_L c n1 V1).slots[j]? = some (.long (lN (kw_d V1 j))) := arrV_read c _ (by omega)
  rw [hr] at e
  have e2 := Option.some.inj e
  injection e2 with e3
  exact (kq_lN_inj (kw_d_lt _ _) (kw_d_lt _ _) e3).symm
theorem kq_r.sameI {U : State} {H : Heap} {a n n1 V V1 : Nat} {c : ClassId} (h : kq_sI U H a n V) (h1 : H[a]? = some (kq_I c n1 V1)) {j : Nat} (hj : j < n) : kw_d V j = kw_d V1 j := by
  obtain ⟨cell, g1, g2, g3, g4, g5⟩ := h
  rw [h1] at g1
  obtain rfl := Option.some.inj g1
  have e := g5 j hj
  have hs : (kq_I c n1 V1).slots.size = n1 := arrV_size c n1 _
  have hr : (kq_I c n1 V1).slots[j]? = some (.int (nI (kw_d V1 j))) := arrV_read c _ (by omega)
  rw [hr] at e
  have e2 := Option.some.inj e
  injection e2 with e3
  exact (kq_nI_inj (kw_d_lt _ _) (kw_d_lt _ _) e3).symm
theorem kq_L_put (c : ClassId) (n V k : Nat) {x : Nat} (hx : x < 4294967296) : arrV c n (updV (fun j => .long (lN (kw_d V j))) k (.long (lN x))) = kq_L c n (kw_s V k x) := by
  unfold kq_L
  congr 1
  funext j
  by_cases e : j = k
  · subst e
    rw [kw_d_ws_same _ _ hx]
    simp [updV]
  · rw [kw_d_ws_ne _ hx e]
    simp [updV, e]
theorem kq_I_put (c : ClassId) (n V k : Nat) {x : Nat} (hx : x < 4294967296) : arrV c n (updV (fun j => .int (nI (kw_d V j))) k (.int (nI x))) = kq_I c n (kw_s V k x) := by
  unfold kq_I
  congr 1
  funext j
  by_cases e : j = k
  · subst e
    rw [kw_d_ws_same _ _ hx]
    simp [updV]
  · rw [kw_d_ws_ne _ hx e]
    simp [updV, e]
theorem kq_arrV_congr {c : ClassId} {n : Nat} {f g : Nat → Value} (h : ∀ j, j < n → f j = g j) : arrV c n f = arrV c n g := by
  unfold arrV
  have e : (fun j : Fin n => f j.val) = (fun j : Fin n => g j.val) := funext (fun j => h j.val j.isLt)
  rw [e]
theorem kq_L_mod (c : ClassId) (n V : Nat) : kq_L c n (V % kw_M n) = kq_L c n V := kq_arrV_congr (fun j hj => by rw [kw_d_mod hj])
theorem kq_I_mod (c : ClassId) (n V : Nat) : kq_I c n (V % kw_M n) = kq_I c n V := kq_arrV_congr (fun j hj => by rw [kw_d_mod hj])
theorem kq_inc (i : Nat) : nI i + Int32.ofInt 1 = nI (i + 1) := by
  rw [show Int32.ofInt 1 = 1 by decide]
  exact nI_1 i
theorem kq_dec (i : Nat) : nI (i + 1) + Int32.ofInt (-1) = nI i := by
  rw [show Int32.ofInt (-1) = -1 by decide]
  exact pk_m1 i
/-- a row that is read while row r is being written from below: word i is still its own -/
theorem kq_mixL {U : State} {H : Heap} {a r n A R0 V i : Nat} {c : ClassId} (hs : kq_sL U H a n A) (hT : ArrOfT U c .long) (hr : H[r]? = some (kq_L c n R0)) (hV : ∀ j, i ≤ j → j < n → kw_d V j = kw_d R0 j) (hi : i < n) :
    ∃ f, kq_r U .long (kq_set H r (kq_L c n V)) a n f ∧ f i = .long (lN (kw_d A i)) := by
  by_cases e : a = r
  · subst e
    refine ⟨_, kq_r.ofV hT (kq_set_at hr), ?_⟩
    show Value.long (lN (kw_d V i)) = _
    rw [hV i (Nat.le_refl i) hi, hs.sameL hr hi]
  · exact ⟨_, hs.other (kq_set_ne e), rfl⟩
theorem kq_mixI {U : State} {H : Heap} {a r n A R0 V i : Nat} {c : ClassId} (hs : kq_sI U H a n A) (hT : ArrOfT U c .int) (hr : H[r]? = some (kq_I c n R0)) (hV : ∀ j, i ≤ j → j < n → kw_d V j = kw_d R0 j) (hi : i < n) :
    ∃ f, kq_r U .int (kq_set H r (kq_I c n V)) a n f ∧ f i = .int (nI (kw_d A i)) := by
  by_cases e : a = r
  · subst e
    refine ⟨_, kq_r.ofV hT (kq_set_at hr), ?_⟩
    show Value.int (nI (kw_d V i)) = _
    rw [hV i (Nat.le_refl i) hi, hs.sameI hr hi]
  · exact ⟨_, hs.other (kq_set_ne e), rfl⟩
theorem kq_runV {cell : Cell} {c1 : ClassId} {n k : Nat} {f g : Nat → Value} (h : ∀ j, j < k → cell.slots[j]? = some (f j)) : (arrV c1 n g).storeRun 0 (cell.stretch 0 k) = arrV c1 n (fun j => if j < k then f j else g j) := by
  have e : cell.stretch 0 k = (List.range k).map f := by
    unfold Cell.stretch
    apply List.map_congr_left
    intro i hi
    have hi' := List.mem_range.mp hi
    rw [Array.getD_eq_getD_getElem?, Nat.zero_add, h i hi']
    rfl
  rw [e, Cell.storeRun, va_pairs]
  congr 1
  funext j
  simp only [List.length_map, List.length_range, Nat.add_zero, Nat.zero_add]
  by_cases hj : j < k
  · rw [if_pos ⟨Nat.zero_le j, hj⟩, if_pos hj, List.getD_eq_getElem?_getD, List.getElem?_map, Nat.sub_zero, List.getElem?_range hj]
    rfl
  · rw [if_neg (fun q => hj q.2), if_neg hj]
/-- what is said of a state by its tables alone -/
def kq_st (B : State → Prop) : Prop := ∀ u U : State, u.vm.Alike U.vm → B u → B U
theorem kq_st.both {B C : State → Prop} (h : kq_st B) (g : kq_st C) : kq_st (fun U => B U ∧ C U) := fun u U hv q => ⟨h u U hv q.1, g u U hv q.2⟩
theorem kq_st_r {ty : FieldType} {H : Heap} {a n : Nat} {f : Nat → Value} : kq_st (fun U => kq_r U ty H a n f) := fun _ _ hv q => q.moved hv
theorem kq_st_A {c : ClassId} {ty : FieldType} : kq_st (fun U => ArrOfT U c ty) := fun _ _ hv q => arrOfT_moved hv q
theorem kq_st_p {P : Prop} : kq_st (fun _ => P) := fun _ _ _ q => q
/-- a contract's start: the arguments, the heap, and what the tables say -/
def kq_P (av : List Value) (H : Heap) (B : State → Prop) : Array Value → State → Prop := va_Pc av (fun U => U.heap = H ∧ B U)
/-- a contract's end: the answer and the heap -/
def kq_Q (post : Option Value → Heap → Prop) : Array Value → State → Outcome → State → Prop := fun _ _ o t => ∃ v : Option Value, o = .returned v ∧ post v t.heap
theorem kq_preS {s : State} {H : Heap} {As : List Value} {B : State → Prop} (hB : kq_st B) (h : B s) : PreS s H (kq_P As H B) As :=
  ⟨fun _ U _ _ q => ⟨q.1, q.2.1, hB U _ (Vm.Alike.refl U.vm) q.2.2⟩, fun U hU hW => ⟨rfl, hU, hB s U hW.alike h⟩⟩
theorem kq_preV {s : State} {H : Heap} {C : String} {b : Addr} {As : List Value} {B : State → Prop} (hB : kq_st B) (h : B s) (hc : ∃ cellB : Cell, H[b]? = some cellB ∧ cellB.vm.isStatics = false ∧ s.vm.findClass C = some cellB.cls) : PreV s H C b (kq_P (.ref b :: As) H B) As :=
  ⟨fun _ U _ _ q => ⟨q.1, q.2.1, hB U _ (Vm.Alike.refl U.vm) q.2.2⟩, hc, fun U hU hW => ⟨rfl, hU, hB s U hW.alike h⟩⟩
section KQ
variable {p : Program} {l : Launch} {e : Env} {R : Room} {s : State} {m : MethodId} {args : Array Value} {below : List Frame} {meth : Method} {c : Code} {H : Heap} {locs : List Loc} {cells slots : Nat} {Q : State → Prop}
variable {cc : ByteArray} {pc : Nat} {ls : Array Slot} {rest : List Value}
theorem kq_ri {x y : Int32} (h : x = y) (k : W p l e R s m args below meth c H locs cells slots Q (F0 m pc ls (.int y :: rest))) : W p l e R s m args below meth c H locs cells slots Q (F0 m pc ls (.int x :: rest)) := h ▸ k
theorem kq_rl {x y : Int64} (h : x = y) (k : W p l e R s m args below meth c H locs cells slots Q (F0 m pc ls (.long y :: rest))) : W p l e R s m args below meth c H locs cells slots Q (F0 m pc ls (.long x :: rest)) := h ▸ k
theorem kq_rH {H1 : Heap} {g : JFrame} (h : H = H1) (k : W p l e R s m args below meth c H1 locs cells slots Q g) : W p l e R s m args below meth c H locs cells slots Q g := h ▸ k
theorem kq_in {n j : Nat} (hj : j < n) (hn : n < 2147483648) {z : Nat} (hz : n ≤ z) : ¬ (nI j < 0 ∨ z ≤ (nI j).toNatClampNeg) := by
  intro q
  rcases q with q | q
  · exact nI_pos (by omega) q
  · rw [nI_clamp (by omega)] at q
    omega
theorem kq_lald (hexec : p.tables.exec = Jvm.exec) (hb : c.code = cc) {a n : Nat} {f : Nat → Value} (h : kq_r s .long H a n f) {j : Nat} (hj : j < n) (hn : n < 2147483648) {v : Value} (hv : f j = v) (hdg : decode cc pc = .ok (.laload, 1))
    (kk : W p l e R s m args below meth c H locs cells slots Q (F0 m (pc + 1) ls (v :: rest))) : W p l e R s m args below meth c H locs cells slots Q (F0 m pc ls (.int (nI j) :: .ref a :: rest)) := by
  obtain ⟨cell, h1, h2, h3, h4, h5⟩ := h
  exact W.lald (v := v) hexec hb h1 h2 h3 (kq_in hj hn h4) (by rw [nI_clamp (by omega), h5 j hj, hv]) rfl rfl hdg kk
theorem kq_iald (hexec : p.tables.exec = Jvm.exec) (hb : c.code = cc) {a n : Nat} {f : Nat → Value} (h : kq_r s .int H a n f) {j : Nat} (hj : j < n) (hn : n < 2147483648) {v : Value} (hv : f j = v) (hdg : decode cc pc = .ok (.iaload, 1))
    (kk : W p l e R s m args below meth c H locs cells slots Q (F0 m (pc + 1) ls (v :: rest))) : W p l e R s m args below meth c H locs cells slots Q (F0 m pc ls (.int (nI j) :: .ref a :: rest)) := by
  obtain ⟨cell, h1, h2, h3, h4, h5⟩ := h
  exact W.iald (v := v) hexec hb h1 h2 h3 (kq_in hj hn h4) (by rw [nI_clamp (by omega), h5 j hj, hv]) rfl rfl hdg kk
theorem kq_last (hexec : p.tables.exec = Jvm.exec) (hb : c.code = cc) {a n V : Nat} {cL : ClassId} (hT : ArrOfT s cL .long) (h : H[a]? = some (kq_L cL n V)) {j x : Nat} (hj : j < n) (hn : n < 2147483648) (hx : x < 4294967296) (hdg : decode cc pc = .ok (.lastore, 1))
    (kk : W p l e R s m args below meth c (kq_set H a (kq_L cL n (kw_s V j x))) (locs ++ [⟨a, j⟩]) cells slots Q (F0 m (pc + 1) ls rest)) : W p l e R s m args below meth c H locs cells slots Q (F0 m pc ls (.long (lN x) :: .int (nI j) :: .ref a :: rest)) := by
  have hsz : (kq_L cL n V).slots.size = n := arrV_size cL n _
  refine W.last hexec hb h (hT n _) (fun q => by cases q) (kq_in hj hn (by omega)) rfl rfl hdg (fun H1 e1 e2 e3 => ?_)
  rw [nI_clamp (by omega)] at e1 ⊢
  unfold kq_L at e1
  rw [arrV_store, kq_L_put cL n V j hx] at e1
  exact kq_rH (kq_is_set h e1 e3) kk
theorem kq_iast (hexec : p.tables.exec = Jvm.exec) (hb : c.code = cc) {a n V : Nat} {cL : ClassId} (hT : ArrOfT s cL .int) (h : H[a]? = some (kq_I cL n V)) {j x : Nat} (hj : j < n) (hn : n < 2147483648) (hx : x < 4294967296) (hdg : decode cc pc = .ok (.iastore, 1))
    (kk : W p l e R s m args below meth c (kq_set H a (kq_I cL n (kw_s V j x))) (locs ++ [⟨a, j⟩]) cells slots Q (F0 m (pc + 1) ls rest)) : W p l e R s m args below meth c H locs cells slots Q (F0 m pc ls (.int (nI x) :: .int (nI j) :: .ref a :: rest)) := by
  have hsz : (kq_I cL n V).slots.size = n := arrV_size cL n _
  refine W.iast hexec hb h (hT n _) (fun q => by cases q) (kq_in hj hn (by omega)) rfl rfl hdg (fun H1 e1 e2 e3 => ?_)
  rw [nI_clamp (by omega)] at e1 ⊢
  unfold kq_I at e1
  rw [arrV_store, kq_I_put cL n V j hx] at e1
  exact kq_rH (kq_is_set h e1 e3) kk
theorem kq_call {st0 : List Value} {post : Option Value → Heap → Prop} {a : Array Value} {free : Addr → Prop} (hr : va_Run p l e R s m args below meth c H locs cells slots 0 0 (F0 m pc ls st0) rest (kq_Q post a) free)
    (kk : ∀ (v : Option Value) (H1 : Heap) (L : List Loc), post v H1 → (∀ q ∈ L, free q.base) → W p l e R s m args below meth c H1 (locs ++ L) cells slots Q (F0 m (pc + 3) ls (v.toList ++ rest))) : W p l e R s m args below meth c H locs cells slots Q (F0 m pc ls st0) := by
  intro T hT X
  obtain ⟨v, st₀, t, T', L, h0, X', hL, e1, e2, ⟨w, hw, hq⟩, st⟩ := hr T hT X
  cases hw
  obtain ⟨t2, a1, b1⟩ := kk v t.heap L hq hL T' e1 X'
  exact ⟨t2, st t2 a1, b1⟩
theorem kq_copyL (hexec : p.tables.exec = Jvm.exec) (hb : c.code = cc) (hml : c.maxLocals = ls.size) {own : String} {index : Nat} (hown : s.vm.findClass own = some m.cls) (hlink : (Cond.methodLink own index arraycopyName).before args s = true) (hnat : (Cond.native arraycopyName).before args s = true) (hstat : (Cond.static arraycopyName).before args s = true) (hini : (Cond.initialized "java/lang/System").before args s = true)
    {a r V R0 : Nat} {c1 : ClassId} (h : kq_sL s H a 8 V) (hT : ArrOfT s c1 .long) (hr : H[r]? = some (kq_L c1 8 R0)) (hframes : 1 ≤ R.frames) (hlocals : (rest.map fun v => v.category).sum + (nativeFrameWords "java/lang/System" "arraycopy" 5 + 11) ≤ R.locals) (hdg : decode cc pc = .ok (.invokestatic index, 3))
    (kk : ∀ L : List Loc, (∀ q ∈ L, q.base = r) → W p l e R s m args below meth c (kq_set H r (kq_L c1 8 V)) (locs ++ L) cells slots Q (F0 m (pc + 3) ls rest)) : W p l e R s m args below meth c H locs cells slots Q (F0 m pc ls (.int (nI 8) :: .int (nI 0) :: .ref r :: .int (nI 0) :: .ref a :: rest)) := by
  obtain ⟨cell, g1, ⟨g2, k0, hk0, cm0, hkk0⟩, g3, g4, g5⟩ := h
  obtain ⟨-, k1, hk1, cm1, hkk1⟩ := hT 8 (fun j => .long (lN (kw_d R0 j)))
  intro T hTh X
  have n8 : (nI 8).toNatClampNeg = 8 := nI_clamp (by decide)
  have n0 : (nI 0).toNatClampNeg = 0 := nI_clamp (by decide)
  have i8 : (nI 8).toInt = 8 := nI_toInt (n := 8) (by decide)
  have i0 : (nI 0).toInt = 0 := nI_toInt (n := 0) (by decide)
  have hsz : (kq_L c1 8 R0).slots.size = 8 := arrV_size c1 8 _
  obtain ⟨vm', X', step⟩ := X.arraycopy hexec hown hlink hnat hstat hini (src := a) (dst := r) (cs := cell) (cd := kq_L c1 8 R0) (srcPos := nI 0) (destPos := nI 0) (n := nI 8) (by rw [hTh]; exact g1) (by rw [hTh]; exact hr)
    g2 (fun _ h => by cases h) g3 (fun h => by cases h) hk0 hk1 hkk0 hkk1 (by decide) (nI_pos (by decide)) (nI_pos (by decide)) (nI_pos (by decide))
    (by rw [i0, i8]; omega) (by rw [i0, i8, hsz]; omega)
    (fun vm₁ _ i hi => by
      rw [n8] at hi
      have e : cell.slots.getD ((nI 0).toNatClampNeg + i) .null = .long (lN (kw_d V i)) := by
        rw [Array.getD_eq_getD_getElem?, n0, Nat.zero_add, g5 i hi]
        rfl
      rw [e]
      exact ⟨rfl, trivial⟩)
    (g := F0 m pc ls (.int (nI 8) :: .int (nI 0) :: .ref r :: .int (nI 0) :: .ref a :: rest)) rfl (by rw [hml]) (rest := rest) rfl (by rw [hb]; exact hdg) hframes (by show 2 * 0 + _ + _ ≤ _; omega)
  have e1 : copied cell (kq_L c1 8 R0) (nI 0) (nI 0) (nI 8) = kq_L c1 8 V := by
    show (kq_L c1 8 R0).storeRun (nI 0).toNatClampNeg (cell.stretch (nI 0).toNatClampNeg (nI 8).toNatClampNeg) = _
    rw [n0, n8]
    unfold kq_L
    rw [kq_runV g5]
    exact kq_arrV_congr (fun j hj => if_pos hj)
  rw [e1] at X' step
  have hheap : ((T.setVm vm').setCell r (kq_L c1 8 V)).heap = kq_set H r (kq_L c1 8 V) := by rw [← hTh]; rfl
  obtain ⟨t, a1, b1⟩ := kk _ (fun q hq => by
    obtain ⟨z, -, hz⟩ := List.mem_map.mp hq
    rw [← hz]) _ hheap X'
  exact ⟨t, step t a1, b1⟩
theorem kq_copyI (hexec : p.tables.exec = Jvm.exec) (hb : c.code = cc) (hml : c.maxLocals = ls.size) {own : String} {index : Nat} (hown : s.vm.findClass own = some m.cls) (hlink : (Cond.methodLink own index arraycopyName).before args s = true) (hnat : (Cond.native arraycopyName).before args s = true) (hstat : (Cond.static arraycopyName).before args s = true) (hini : (Cond.initialized "java/lang/System").before args s = true)
    {a r V R0 : Nat} {c1 : ClassId} (h : kq_sI s H a 8 V) (hT : ArrOfT s c1 .int) (hr : H[r]? = some (kq_I c1 8 R0)) (hframes : 1 ≤ R.frames) (hlocals : (rest.map fun v => v.category).sum + (nativeFrameWords "java/lang/System" "arraycopy" 5 + 11) ≤ R.locals) (hdg : decode cc pc = .ok (.invokestatic index, 3))
    (kk : ∀ L : List Loc, (∀ q ∈ L, q.base = r) → W p l e R s m args below meth c (kq_set H r (kq_I c1 8 V)) (locs ++ L) cells slots Q (F0 m (pc + 3) ls rest)) : W p l e R s m args below meth c H locs cells slots Q (F0 m pc ls (.int (nI 8) :: .int (nI 0) :: .ref r :: .int (nI 0) :: .ref a :: rest)) := by
  obtain ⟨cell, g1, ⟨g2, k0, hk0, cm0, hkk0⟩, g3, g4, g5⟩ := h
  obtain ⟨-, k1, hk1, cm1, hkk1⟩ := hT 8 (fun j => .int (nI (kw_d R0 j)))
  intro T hTh X
  have n8 : (nI 8).toNatClampNeg = 8 := nI_clamp (by decide)
  have n0 : (nI 0).toNatClampNeg = 0 := nI_clamp (by decide)
  have i8 : (nI 8).toInt = 8 := nI_toInt (n := 8) (by decide)
  have i0 : (nI 0).toInt = 0 := nI_toInt (n := 0) (by decide)
  have hsz : (kq_I c1 8 R0).slots.size = 8 := arrV_size c1 8 _
  obtain ⟨vm', X', step⟩ := X.arraycopy hexec hown hlink hnat hstat hini (src := a) (dst := r) (cs := cell) (cd := kq_I c1 8 R0) (srcPos := nI 0) (destPos := nI 0) (n := nI 8) (by rw [hTh]; exact g1) (by rw [hTh]; exact hr)
    g2 (fun _ h => by cases h) g3 (fun h => by cases h) hk0 hk1 hkk0 hkk1 (by decide) (nI_pos (by decide)) (nI_pos (by decide)) (nI_pos (by decide))
    (by rw [i0, i8]; omega) (by rw [i0, i8, hsz]; omega)
    (fun vm₁ _ i hi => by
      rw [n8] at hi
      have e : cell.slots.getD ((nI 0).toNatClampNeg + i) .null = .int (nI (kw_d V i)) := by
        rw [Array.getD_eq_getD_getElem?, n0, Nat.zero_add, g5 i hi]
        rfl
      rw [e]
      exact ⟨rfl, trivial⟩)
    (g := F0 m pc ls (.int (nI 8) :: .int (nI 0) :: .ref r :: .int (nI 0) :: .ref a :: rest)) rfl (by rw [hml]) (rest := rest) rfl (by rw [hb]; exact hdg) hframes (by show 2 * 0 + _ + _ ≤ _; omega)
  have e1 : copied cell (kq_I c1 8 R0) (nI 0) (nI 0) (nI 8) = kq_I c1 8 V := by
    show (kq_I c1 8 R0).storeRun (nI 0).toNatClampNeg (cell.stretch (nI 0).toNatClampNeg (nI 8).toNatClampNeg) = _
    rw [n0, n8]
    unfold kq_I
    rw [kq_runV g5]
    exact kq_arrV_congr (fun j hj => if_pos hj)
  rw [e1] at X' step
  have hheap : ((T.setVm vm').setCell r (kq_I c1 8 V)).heap = kq_set H r (kq_I c1 8 V) := by rw [← hTh]; rfl
  obtain ⟨t, a1, b1⟩ := kk _ (fun q hq => by
    obtain ⟨z, -, hz⟩ := List.mem_map.mp hq
    rw [← hz]) _ hheap X'
  exact ⟨t, step t a1, b1⟩
end KQ
end
section
/-! Inverses by a power, no zero divisors, no cube root of -7 (own rows). -/
def kf_inv (m a : Nat) : Nat := a ^ (m - 2) % m
theorem kf_ndvd {m a : Nat} (h : a % m ≠ 0) : ¬ m ∣ a := fun q => h (Nat.mod_eq_zero_of_dvd q)
theorem kf_inv_mul {m a : Nat} (hm : pm_prime m) (ha : a % m ≠ 0) : a * kf_inv m a % m = 1 := by
  have h2 := hm.1
  unfold kf_inv
  rw [Nat.mul_mod_mod]
  have e : a * a ^ (m - 2) = a ^ (m - 1) := by
    have q : m - 1 = (m - 2) + 1 := by omega
    rw [q, Nat.pow_succ, Nat.mul_comm]
  rw [e]
  exact pm_fermat1 hm (kf_ndvd ha)
theorem kf_inv_lt {m a : Nat} (hm : pm_prime m) : kf_inv m a < m := Nat.mod_lt _ (by have := hm.1; omega)
theorem kf_uniq {m a x y : Nat} (hx : x < m) (hy : y < m) (h1 : a * x % m = 1) (h2 : a * y % m = 1) : x = y := by
  have hm : 1 < m := by
    apply Classical.byContradiction
    intro q
    have : a * x % m < m := Nat.mod_lt _ (by omega)
    omega
  have e1 : x * (a * y) % m = x := by rw [Nat.mul_mod, h2, Nat.mul_mod, Nat.mod_mod, ← Nat.mul_mod, Nat.mul_one, Nat.mod_eq_of_lt hx]
  have e2 : y * (a * x) % m = y := by rw [Nat.mul_mod, h1, Nat.mul_mod, Nat.mod_mod, ← Nat.mul_mod, Nat.mul_one, Nat.mod_eq_of_lt hy]
  have e3 : x * (a * y) = y * (a * x) := by grind
  rw [← e1, e3, e2]
theorem kf_zero {m a b : Nat} (hm : pm_prime m) (h : a * b % m = 0) : a % m = 0 ∨ b % m = 0 := by
  rcases pm_euclid hm (Nat.dvd_of_mod_eq_zero h) with q | q
  · exact Or.inl (Nat.mod_eq_zero_of_dvd q)
  · exact Or.inr (Nat.mod_eq_zero_of_dvd q)
theorem kf_cube_pw : pm_pw kP (kP - 7) 256 ((kP - 1) / 3) ≠ 1 := by decide +kernel
theorem kf_no_cube (x : Nat) : (x * x * x + 7) % kP ≠ 0 := by
  intro h
  have hP := kP_prime
  have h7 : (kP - 7) + 7 = kP := by decide +kernel
  have hx : ¬ kP ∣ x := by
    intro q
    obtain ⟨c, hc⟩ := q
    rw [hc] at h
    have e : kP * c * (kP * c) * (kP * c) + 7 = 7 + kP * (c * (kP * c) * (kP * c)) := by grind
    rw [e, Nat.add_mul_mod_self_left] at h
    exact absurd h (by decide +kernel)
  have h1 := pm_fermat1 hP hx
  have e3 : kP - 1 = 3 * ((kP - 1) / 3) := by decide +kernel
  rw [e3, Nat.pow_mul] at h1
  have hc : x ^ 3 % kP = (kP - 7) % kP := by
    have e4 : x ^ 3 = x * x * x := by grind
    rw [e4]
    have e5 : (x * x * x + 7 + (kP - 7)) % kP = (kP - 7) % kP := by
      rw [Nat.add_mod, h, Nat.zero_add, Nat.mod_mod]
    rw [← e5, Nat.add_assoc, Nat.add_comm 7, h7, Nat.add_mod_right]
  rw [Nat.pow_mod, hc, ← Nat.pow_mod] at h1
  have h2 := pm_pw_eq kP (kP - 7) 256 ((kP - 1) / 3) (by decide +kernel)
  exact kf_cube_pw (h2.trans h1)
end
section
/-! Sums, differences, products and powers modulo a prime m with m + G = 2^256, as the class does them (own rows). -/
def kG_P : Nat := 4294968273
def kG_N : Nat := 432420386565659656852420866394968145599
/-- m and its gap -/
def kp_ok (m G : Nat) : Prop := m + G = kw_M 8 ∧ 2 < G ∧ G < 680564733841876926926749214863536422912
theorem kp_okP : kp_ok kP kG_P := ⟨by decide +kernel, by decide +kernel, by decide +kernel⟩
theorem kp_okN : kp_ok kN kG_N := ⟨by decide +kernel, by decide +kernel, by decide +kernel⟩
theorem kp_trim {m G R : Nat} (h : kp_ok m G) (hR : R < kw_M 8) : (if R < m then R else kw_sub R m) = R % m := by
  obtain ⟨h1, h2, h3⟩ := h
  rw [kw_M_8] at *
  split
  · rename_i q
    rw [Nat.mod_eq_of_lt q]
  · rename_i q
    unfold kw_sub
    rw [kw_M_8]
    have e : R % m = R - m := by
      rw [Nat.mod_eq_sub_mod (by omega), Nat.mod_eq_of_lt (by omega)]
    rw [e]
    omega
/-- what the turns of a sum leave -/
def kp_sum (G A B : Nat) : Nat := if (A + B) / kw_M 8 = 0 then (A + B) % kw_M 8 else if ((A + B) % kw_M 8 + G) / kw_M 8 = 0 then ((A + B) % kw_M 8 + G) % kw_M 8 else (((A + B) % kw_M 8 + G) % kw_M 8 + G) % kw_M 8
theorem kp_sum_lt (G A B : Nat) : kp_sum G A B < kw_M 8 := by
  have h := kw_M_pos 8
  unfold kp_sum
  split
  · exact Nat.mod_lt _ h
  · split <;> exact Nat.mod_lt _ h
theorem kp_sum_eq {m G A B : Nat} (h : kp_ok m G) (hA : A < kw_M 8) (hB : B < kw_M 8) : kp_sum G A B % m = (A + B) % m := by
  obtain ⟨h1, h2, h3⟩ := h
  unfold kp_sum
  rw [kw_M_8] at *
  have key : ∀ x k : Nat, x = A + B - k * m → k * m ≤ A + B → x % m = (A + B) % m := by
    intro x k e hk
    rw [e, Nat.mul_comm, Nat.sub_mul_mod (by rw [Nat.mul_comm]; exact hk)]
  split
  · rename_i q
    exact key _ 0 (by omega) (by omega)
  · rename_i q
    split
    · rename_i q2
      exact key _ 1 (by omega) (by omega)
    · rename_i q2
      exact key _ 2 (by omega) (by omega)
theorem kp_sum_end {G A B m : Nat} (h : kp_ok m G) (hA : A < kw_M 8) (hB : B < kw_M 8) : (((A + B) % kw_M 8 + G) % kw_M 8 + G) / kw_M 8 = 0 ∨ ((A + B) % kw_M 8 + G) / kw_M 8 = 0 ∨ (A + B) / kw_M 8 = 0 := by
  obtain ⟨h1, h2, h3⟩ := h
  rw [kw_M_8] at *
  omega
/-- A less B modulo m -/
def kp_dif (m A B : Nat) : Nat := (A + (m - B % m)) % m
theorem kp_dif_lt {m A B : Nat} (hm : 0 < m) : kp_dif m A B < m := Nat.mod_lt _ hm
theorem kp_dif_of {m A B x : Nat} (hm : 0 < m) (h : (x + B) % m = A % m) : x % m = kp_dif m A B := by
  unfold kp_dif
  have hb := Nat.mod_lt B hm
  have e1 : (A + (m - B % m)) % m = (x + B + (m - B % m)) % m := by
    rw [Nat.add_mod, ← h, ← Nat.add_mod]
  have e2 : x + B + (m - B % m) = x + m * (B / m + 1) := by
    have := Nat.div_add_mod B m
    rw [Nat.mul_add, Nat.mul_one]
    omega
  rw [e1, e2, Nat.add_mul_mod_self_left]
def kp_sub (G A B : Nat) : Nat := if ¬ A < B then kw_sub A B else if ¬ kw_sub A B < G then kw_sub (kw_sub A B) G else kw_sub (kw_sub (kw_sub A B) G) G
theorem kp_sub_lt (G A B : Nat) : kp_sub G A B < kw_M 8 := by
  unfold kp_sub
  split
  · exact kw_sub_lt _ _
  · split <;> exact kw_sub_lt _ _
theorem kp_sub_eq {m G A B : Nat} (h : kp_ok m G) (hA : A < kw_M 8) (hB : B < kw_M 8) : kp_sub G A B % m = kp_dif m A B := by
  obtain ⟨h1, h2, h3⟩ := h
  have hm : 0 < m := by
    rw [kw_M_8] at h1
    omega
  apply kp_dif_of hm
  unfold kp_sub kw_sub
  rw [kw_M_8] at *
  have key : ∀ x k : Nat, x + B = A + m * k → (x + B) % m = A % m := by
    intro x k e
    rw [e, Nat.add_mul_mod_self_left]
  split
  · rename_i q
    exact key _ 0 (by omega)
  · rename_i q
    split
    · rename_i q2
      exact key _ 1 (by omega)
    · rename_i q2
      exact key _ 2 (by omega)
theorem kp_sub_end {G A B m : Nat} (h : kp_ok m G) (hA : A < kw_M 8) (hB : B < kw_M 8) : A < B → kw_sub A B < G → ¬ kw_sub (kw_sub A B) G < G := by
  obtain ⟨h1, h2, h3⟩ := h
  unfold kw_sub
  rw [kw_M_8] at *
  omega
/-- one fold by the gap -/
def kp_fold (G V : Nat) : Nat := V % kw_M 8 + V / kw_M 8 * G
theorem kp_fold_eq {m G V : Nat} (h : kp_ok m G) : kp_fold G V % m = V % m := by
  obtain ⟨h1, h2, h3⟩ := h
  have e := Nat.div_add_mod V (kw_M 8)
  unfold kp_fold
  generalize V % kw_M 8 = lo at *
  generalize V / kw_M 8 = hi at *
  rw [← e, ← h1, Nat.add_mul, Nat.add_comm lo, Nat.mul_comm hi G, Nat.add_assoc, Nat.mul_add_mod]
theorem kp_fold0 {G V : Nat} (h : V / kw_M 8 = 0) : kp_fold G V = V := by
  have e := Nat.div_add_mod V (kw_M 8)
  unfold kp_fold
  rw [h] at *
  omega
theorem kp_fold_le {m G V b : Nat} (h : kp_ok m G) (hb : V / kw_M 8 ≤ b) : kp_fold G V ≤ kw_M 8 - 1 + b * 680564733841876926926749214863536422911 := by
  obtain ⟨h1, h2, h3⟩ := h
  have e := Nat.mod_lt V (kw_M_pos 8)
  have e2 : V / kw_M 8 * G ≤ b * 680564733841876926926749214863536422911 := Nat.mul_le_mul hb (by omega)
  unfold kp_fold
  omega
/-- four folds are enough -/
theorem kp_four {m G V : Nat} (h : kp_ok m G) (hV : V < kw_M 16) : kp_fold G (kp_fold G (kp_fold G (kp_fold G V))) < kw_M 8 := by
  have h0 : V / kw_M 8 ≤ kw_M 8 - 1 := by
    have : V / kw_M 8 < kw_M 8 := Nat.div_lt_of_lt_mul (by rw [← kw_M_16]; exact hV)
    omega
  have g1 := kp_fold_le h h0
  generalize kp_fold G V = V1 at *
  have h1 : V1 / kw_M 8 ≤ 680564733841876926926749214863536422911 := by
    rw [kw_M_8] at *
    omega
  have g2 := kp_fold_le h h1
  generalize kp_fold G V1 = V2 at *
  have h2 : V2 / kw_M 8 ≤ 4 := by
    rw [kw_M_8] at *
    omega
  have g3 := kp_fold_le h h2
  generalize kp_fold G V2 = V3 at *
  have h3 : V3 / kw_M 8 ≤ 1 := by
    rw [kw_M_8] at *
    omega
  obtain ⟨q1, q2, q3⟩ := h
  unfold kp_fold
  have e := Nat.div_add_mod V3 (kw_M 8)
  have e1 := Nat.mod_lt V3 (kw_M_pos 8)
  generalize V3 % kw_M 8 = lo at *
  generalize V3 / kw_M 8 = hi at *
  rcases (show hi = 0 ∨ hi = 1 by omega) with rfl | rfl
  · rw [kw_M_8] at *
    omega
  · rw [kw_M_8] at *
    omega
theorem kp_fold_lt {m G V : Nat} (h : kp_ok m G) (hV : V < kw_M 16) : kp_fold G V < kw_M 16 := by
  have h0 : V / kw_M 8 ≤ kw_M 8 - 1 := by
    have : V / kw_M 8 < kw_M 8 := Nat.div_lt_of_lt_mul (by rw [← kw_M_16]; exact hV)
    omega
  have g1 := kp_fold_le h h0
  rw [kw_M_16]
  rw [kw_M_8] at *
  omega
/-- n folds -/
def kp_folds (G : Nat) : Nat → Nat → Nat
  | 0, V => V
  | n + 1, V => kp_folds G n (kp_fold G V)
theorem kp_folds_eq {m G : Nat} (h : kp_ok m G) : ∀ n V, kp_folds G n V % m = V % m
  | 0, _ => rfl
  | n + 1, V => by
    show kp_folds G n (kp_fold G V) % m = _
    rw [kp_folds_eq h n, kp_fold_eq h]
theorem kp_folds0 {G : Nat} : ∀ n V, V / kw_M 8 = 0 → kp_folds G n V = V
  | 0, _, _ => rfl
  | n + 1, V, h => by
    show kp_folds G n (kp_fold G V) = V
    rw [kp_fold0 h, kp_folds0 n V h]
theorem kp_folds4 {m G V : Nat} (h : kp_ok m G) (hV : V < kw_M 16) : kp_folds G 4 V < kw_M 8 := kp_four h hV
/-- a number to a power, bit by bit from above -/
theorem kp_bit (e k : Nat) : e / 2 ^ k = 2 * (e / 2 ^ (k + 1)) + e / 2 ^ k % 2 := by
  rw [Nat.pow_succ, ← Nat.div_div_eq_div_mul]
  omega
theorem kp_pow0 {m a e k g : Nat} (hg : g = a ^ (e / 2 ^ (k + 1)) % m) (hb : e / 2 ^ k % 2 = 0) : g * g % m = a ^ (e / 2 ^ k) % m := by
  have h := kp_bit e k
  rw [hb, Nat.add_zero] at h
  rw [h, hg, ← Nat.mul_mod, ← Nat.pow_add]
  congr 2
  omega
theorem kp_pow1 {m a e k g : Nat} (hg : g = a ^ (e / 2 ^ (k + 1)) % m) (hb : e / 2 ^ k % 2 = 1) : g * g % m * a % m = a ^ (e / 2 ^ k) % m := by
  have h := kp_bit e k
  rw [hb] at h
  rw [h, hg, ← Nat.mul_mod, ← Nat.pow_add, Nat.mod_mul_mod, ← Nat.pow_succ]
  congr 2
  omega
end
section
/-! The curve: running sums as (X / Z^2, Y / Z^3) against plain pairs, in any commutative ring, then modulo FIELD (own rows). -/
section KJ
variable {α : Type}
theorem kj_r1 [Lean.Grind.CommRing α] (y s Z : α) : s * (y * (Z * Z * Z) * Z + y * (Z * Z * Z) * Z) = ((y + y) * s) * (Z * Z * Z * Z) := by grind
theorem kj_r2 [Lean.Grind.CommRing α] (x Z : α) : (x * x + (x * x + x * x)) * (Z * Z * Z * Z) = x * (Z * Z) * (x * (Z * Z)) + x * (Z * Z) * (x * (Z * Z)) + x * (Z * Z) * (x * (Z * Z)) := by grind
theorem kj_r3 [Lean.Grind.CommRing α] (x Y Z : α) : x * (Z * Z) * (Y * Y) + x * (Z * Z) * (Y * Y) + (x * (Z * Z) * (Y * Y) + x * (Z * Z) * (Y * Y)) = x * ((Y * Z + Y * Z) * (Y * Z + Y * Z)) := by grind
theorem kj_r4 [Lean.Grind.CommRing α] (s Z x : α) : s * Z * (s * Z) - x * (Z * Z) - x * (Z * Z) = (s * s - x - x) * (Z * Z) := by grind
theorem kj_r5 [Lean.Grind.CommRing α] (y Y Z : α) : y * ((Y * Z + Y * Z) * (Y * Z + Y * Z) * (Y * Z + Y * Z)) = (Y * Y * Y + Y * Y * Y + Y * Y * Y + Y * Y * Y + (Y * Y * Y + Y * Y * Y + Y * Y * Y + Y * Y * Y)) * (y * (Z * Z * Z)) := by grind
theorem kj_r6 [Lean.Grind.CommRing α] (Y : α) : (Y * Y * Y + Y * Y * Y + Y * Y * Y + Y * Y * Y + (Y * Y * Y + Y * Y * Y + Y * Y * Y + Y * Y * Y)) * Y = (Y * Y + Y * Y) * (Y * Y + Y * Y) + (Y * Y + Y * Y) * (Y * Y + Y * Y) := by grind
theorem kj_r7 [Lean.Grind.CommRing α] (s Z x t y : α) : s * Z * (x * (Z * Z) - t * (Z * Z)) - y * (Z * Z * Z) = (s * (x - t) - y) * (Z * Z * Z) := by grind
theorem kj_dbl [Lean.Grind.CommRing α] (X Y Z x y s t u Z1 S Sh M X1 Y1 : α) (hX : X = x * (Z * Z)) (hY : Y = y * (Z * Z * Z)) (hs : (y + y) * s = x * x + (x * x + x * x))
    (ht : t = s * s - x - x) (hu : u = s * (x - t) - y) (hZ1 : Z1 = Y * Z + Y * Z) (hS : S = Y * Y) (hSh : Sh = X * S + X * S + (X * S + X * S)) (hM : M = X * X + X * X + X * X)
    (hX1 : X1 = M * M - Sh - Sh) (hY1 : Y1 = M * (Sh - X1) - ((S + S) * (S + S) + (S + S) * (S + S))) : X1 = t * (Z1 * Z1) ∧ Y1 = u * (Z1 * Z1 * Z1) := by
  have hMs : M = s * Z1 := by rw [hM, hZ1, hX, hY, kj_r1, hs, kj_r2]
  have h4 : Sh = x * (Z1 * Z1) := by rw [hSh, hS, hX, hZ1, kj_r3]
  have h1 : X1 = t * (Z1 * Z1) := by rw [hX1, hMs, h4, kj_r4, ← ht]
  have h5 : (S + S) * (S + S) + (S + S) * (S + S) = y * (Z1 * Z1 * Z1) := by rw [hS, hZ1, kj_r5, ← hY, kj_r6]
  exact ⟨h1, by rw [hY1, hMs, h4, h1, h5, kj_r7, ← hu]⟩
theorem kj_q1 [Lean.Grind.CommRing α] (b y Z : α) : b * (Z * Z * Z) - y * (Z * Z * Z) = (b - y) * (Z * Z * Z) := by grind
theorem kj_q2 [Lean.Grind.CommRing α] (b x s Z : α) : (b - x) * s * (Z * Z * Z) = s * (Z * (b * (Z * Z) - x * (Z * Z))) := by grind
theorem kj_q3 [Lean.Grind.CommRing α] (x Z r : α) : x * (Z * Z) * (r * r) = x * (Z * r * (Z * r)) := by grind
theorem kj_q4 [Lean.Grind.CommRing α] (b x Z : α) : b * (Z * Z) - x * (Z * Z) = (b - x) * (Z * Z) := by grind
theorem kj_q5 [Lean.Grind.CommRing α] (d Z r : α) : r * r * (d * (Z * Z)) = d * (Z * r * (Z * r)) := by grind
theorem kj_q6 [Lean.Grind.CommRing α] (s Z b x : α) : s * Z * (s * Z) - (b - x) * (Z * Z) - x * (Z * Z) - x * (Z * Z) = (s * s - x - b) * (Z * Z) := by grind
theorem kj_q7 [Lean.Grind.CommRing α] (y Z r : α) : r * r * r * (y * (Z * Z * Z)) = y * (Z * r * (Z * r) * (Z * r)) := by grind
theorem kj_add [Lean.Grind.CommRing α] (X Y Z x y bx by1 s t u run rise Z1 sq cu sh X1 Y1 : α) (hX : X = x * (Z * Z)) (hY : Y = y * (Z * Z * Z)) (hs : (bx - x) * s = by1 - y)
    (ht : t = s * s - x - bx) (hu : u = s * (x - t) - y) (hrun : run = bx * (Z * Z) - X) (hrise : rise = by1 * (Z * Z * Z) - Y) (hZ1 : Z1 = Z * run) (hsq : sq = run * run) (hcu : cu = sq * run) (hsh : sh = X * sq)
    (hX1 : X1 = rise * rise - cu - sh - sh) (hY1 : Y1 = rise * (sh - X1) - cu * Y) : X1 = t * (Z1 * Z1) ∧ Y1 = u * (Z1 * Z1 * Z1) := by
  have h1 : rise = s * Z1 := by rw [hrise, hY, kj_q1, ← hs, kj_q2, ← hX, ← hrun, ← hZ1]
  have h2 : sh = x * (Z1 * Z1) := by rw [hsh, hX, hsq, kj_q3, ← hZ1]
  have h0 : run = (bx - x) * (Z * Z) := by rw [hrun, hX, kj_q4]
  have h3 : cu = (bx - x) * (Z1 * Z1) := by
    have e : cu = run * run * ((bx - x) * (Z * Z)) := by rw [hcu, hsq, ← h0]
    rw [e, kj_q5, ← hZ1]
  have h4 : X1 = t * (Z1 * Z1) := by rw [hX1, h1, h3, h2, kj_q6, ← ht]
  have h5 : cu * Y = y * (Z1 * Z1 * Z1) := by rw [hcu, hsq, hY, kj_q7, ← hZ1]
  exact ⟨h4, by rw [hY1, h5, h1, h2, h4, kj_r7, ← hu]⟩
theorem kj_e1 [Lean.Grind.CommRing α] (x Z w : α) : x * (Z * Z) * (w * w) = x * (Z * w * (Z * w)) := by grind
theorem kj_e2 [Lean.Grind.CommRing α] (x Z w : α) : x * (Z * Z * Z) * (w * w * w) = x * (Z * w * (Z * w) * (Z * w)) := by grind
theorem kj_e3 [Lean.Grind.CommRing α] (x : α) : x * (1 * 1) = x := by grind
theorem kj_e4 [Lean.Grind.CommRing α] (x : α) : x * (1 * 1 * 1) = x := by grind
theorem kj_end [Lean.Grind.CommRing α] (X Y Z x y w : α) (hX : X = x * (Z * Z)) (hY : Y = y * (Z * Z * Z)) (hw : Z * w = 1) : X * (w * w) = x ∧ Y * (w * w * w) = y := by
  constructor
  · rw [hX, kj_e1, hw, kj_e3]
  · rw [hY, kj_e2, hw, kj_e4]
end KJ
/-- a number as an element of the field -/
def kj_f (n : Nat) : Fin kP := ⟨n % kP, Nat.mod_lt _ (by decide +kernel)⟩
theorem kj_f_eq {a b : Nat} : kj_f a = kj_f b ↔ a % kP = b % kP := by
  unfold kj_f
  exact ⟨fun h => Fin.mk.inj h, fun h => Fin.ext h⟩
theorem kj_f_mod (a : Nat) : kj_f (a % kP) = kj_f a := kj_f_eq.mpr (Nat.mod_mod _ _)
theorem kj_f_add (a b : Nat) : kj_f (a + b) = kj_f a + kj_f b := by
  apply Fin.ext
  show (a + b) % kP = (a % kP + b % kP) % kP
  exact Nat.add_mod _ _ _
theorem kj_f_mul (a b : Nat) : kj_f (a * b) = kj_f a * kj_f b := by
  apply Fin.ext
  show (a * b) % kP = (a % kP * (b % kP)) % kP
  exact Nat.mul_mod _ _ _
theorem kj_f_dif (a b : Nat) : kj_f (kp_dif kP a b) = kj_f a - kj_f b := by
  apply Fin.ext
  show ((a + (kP - b % kP)) % kP) % kP = (kP - b % kP + a % kP) % kP
  rw [Nat.mod_mod, Nat.add_comm, Nat.add_mod, Nat.add_mod (kP - b % kP) (a % kP), Nat.mod_mod]
end
section
/-! Plain sums of points modulo FIELD, and what stands for them in the class (own rows). -/
def kc_line (t1 t2 x y bx : Nat) : Nat × Nat :=
  (kp_dif kP (kp_dif kP (t1 * kf_inv kP t2 % kP * (t1 * kf_inv kP t2 % kP) % kP) x) bx,
   kp_dif kP (kp_dif kP x (kp_dif kP (kp_dif kP (t1 * kf_inv kP t2 % kP * (t1 * kf_inv kP t2 % kP) % kP) x) bx) * (t1 * kf_inv kP t2 % kP) % kP) y)
def kc_twice : Option (Nat × Nat) → Option (Nat × Nat)
  | none => none
  | some q => if q.2 = 0 then none else some (kc_line ((q.1 * q.1 % kP + (q.1 * q.1 % kP + q.1 * q.1 % kP) % kP) % kP) ((q.2 + q.2) % kP) q.1 q.2 q.1)
def kc_join (o : Option (Nat × Nat)) (bx by1 : Nat) : Option (Nat × Nat) := match o with
  | none => some (bx, by1)
  | some q => if q.1 = bx then (if q.2 = by1 then kc_twice (some q) else none) else some (kc_line (kp_dif kP by1 q.2) (kp_dif kP bx q.1) q.1 q.2 bx)
theorem kc_twice_some (q : Nat × Nat) : kc_twice (some q) = if q.2 = 0 then none else some (kc_line ((q.1 * q.1 % kP + (q.1 * q.1 % kP + q.1 * q.1 % kP) % kP) % kP) ((q.2 + q.2) % kP) q.1 q.2 q.1) := rfl
theorem kc_join_some (q : Nat × Nat) (bx by1 : Nat) : kc_join (some q) bx by1 = if q.1 = bx then (if q.2 = by1 then kc_twice (some q) else none) else some (kc_line (kp_dif kP by1 q.2) (kp_dif kP bx q.1) q.1 q.2 bx) := rfl
/-- below FIELD -/
def kc_low (o : Option (Nat × Nat)) : Prop := ∀ q, o = some q → q.1 < kP ∧ q.2 < kP
/-- X, Y, Z stand for the point o -/
def kc_rep (o : Option (Nat × Nat)) (X Y Z : Nat) : Prop := Z < kP ∧ match o with
  | none => Z = 0
  | some q => q.1 < kP ∧ q.2 < kP ∧ Z ≠ 0 ∧ kj_f X = kj_f q.1 * (kj_f Z * kj_f Z) ∧ kj_f Y = kj_f q.2 * (kj_f Z * kj_f Z * kj_f Z)
theorem kP_pos : 0 < kP := by decide +kernel
theorem kc_line_lt (t1 t2 x y bx : Nat) : (kc_line t1 t2 x y bx).1 < kP ∧ (kc_line t1 t2 x y bx).2 < kP := ⟨kp_dif_lt kP_pos, kp_dif_lt kP_pos⟩
theorem kc_twice_low {o : Option (Nat × Nat)} : kc_low (kc_twice o) := by
  intro q hq
  cases o with
  | none => exact absurd hq (by simp [kc_twice])
  | some r =>
    rw [kc_twice_some] at hq
    by_cases h : r.2 = 0
    · rw [if_pos h] at hq
      cases hq
    · rw [if_neg h] at hq
      cases hq
      exact kc_line_lt _ _ _ _ _
theorem kc_join_low {o : Option (Nat × Nat)} {bx by1 : Nat} (hx : bx < kP) (hy : by1 < kP) : kc_low (kc_join o bx by1) := by
  intro q hq
  cases o with
  | none =>
    cases hq
    exact ⟨hx, hy⟩
  | some r =>
    rw [kc_join_some] at hq
    by_cases h : r.1 = bx
    · rw [if_pos h] at hq
      by_cases h2 : r.2 = by1
      · rw [if_pos h2] at hq
        exact kc_twice_low q hq
      · rw [if_neg h2] at hq
        cases hq
    · rw [if_neg h] at hq
      cases hq
      exact kc_line_lt _ _ _ _ _
theorem kc_f0 {a : Nat} (h : a < kP) : kj_f a = kj_f 0 ↔ a = 0 := by
  rw [kj_f_eq, Nat.zero_mod, Nat.mod_eq_of_lt h]
theorem kc_fe {a b : Nat} (ha : a < kP) (hb : b < kP) : kj_f a = kj_f b ↔ a = b := by
  rw [kj_f_eq, Nat.mod_eq_of_lt ha, Nat.mod_eq_of_lt hb]
theorem kc_inv {a : Nat} (ha : a < kP) (h0 : a ≠ 0) : kj_f a * kj_f (kf_inv kP a) = kj_f 1 := by
  rw [← kj_f_mul, kj_f_eq, kf_inv_mul kP_prime (by rw [Nat.mod_eq_of_lt ha]; exact h0)]
  rw [Nat.mod_eq_of_lt (by decide +kernel)]
theorem kc_slope {t1 t2 : Nat} (h2 : t2 < kP) (h0 : t2 ≠ 0) : kj_f t2 * kj_f (t1 * kf_inv kP t2 % kP) = kj_f t1 := by
  have h := kc_inv h2 h0
  rw [← kj_f_mul, kj_f_eq] at h
  rw [kj_f_mod, ← kj_f_mul, kj_f_eq]
  have e : t2 * (t1 * kf_inv kP t2) = t1 * (t2 * kf_inv kP t2) := by grind
  rw [e, Nat.mul_mod, h, ← Nat.mul_mod, Nat.mul_one]
theorem kc_odd (y : Nat) (hy : y < kP) (h : (y + y) % kP = 0) : y = 0 := by
  have h2 := kP_prime
  rw [← Nat.two_mul] at h
  rcases kf_zero h2 h with q | q
  · exact absurd q (by decide +kernel)
  · rw [Nat.mod_eq_of_lt hy] at q
    exact q
/-- the class's doubling, row by row, keeps the standing -/
theorem kc_rep_twice {o : Option (Nat × Nat)} {X Y Z z1 z2 sq sh s2 s4 run r2 rise x1 x2 x3 s5 y1 q2 q4 q8 y2 : Nat} (h : kc_rep o X Y Z) (hZ : Z ≠ 0)
    (e1 : z1 = Y * Z % kP) (e2 : z2 = (z1 + z1) % kP) (e3 : sq = Y * Y % kP) (e4 : sh = X * sq % kP) (e5 : s2 = (sh + sh) % kP) (e6 : s4 = (s2 + s2) % kP) (e7 : run = X * X % kP) (e8 : r2 = (run + run) % kP) (e9 : rise = (r2 + run) % kP)
    (e10 : x1 = rise * rise % kP) (e11 : x2 = kp_dif kP x1 s4) (e12 : x3 = kp_dif kP x2 s4) (e13 : s5 = kp_dif kP s4 x3) (e14 : y1 = rise * s5 % kP) (e15 : q2 = (sq + sq) % kP) (e16 : q4 = q2 * q2 % kP) (e17 : q8 = (q4 + q4) % kP) (e18 : y2 = kp_dif kP y1 q8) :
    kc_rep (kc_twice o) x3 y2 z2 := by
  obtain ⟨hZl, h⟩ := h
  have hz2 : z2 < kP := by rw [e2]; exact Nat.mod_lt _ kP_pos
  cases o with
  | none => exact absurd h hZ
  | some q =>
    obtain ⟨hq1, hq2, -, hX, hY⟩ := h
    have f1 : kj_f z2 = kj_f Y * kj_f Z + kj_f Y * kj_f Z := by rw [e2, e1, kj_f_mod, kj_f_add, kj_f_mod, kj_f_mul]
    by_cases hy : q.2 = 0
    · have e : kc_twice (some q) = none := by
        rw [kc_twice_some, if_pos hy]
      rw [e]
      refine ⟨hz2, ?_⟩
      show z2 = 0
      have hY0 : Y % kP = 0 := by
        rw [hy] at hY
        rw [← kj_f_mul, ← kj_f_mul, ← kj_f_mul, Nat.zero_mul, kj_f_eq, Nat.zero_mod] at hY
        exact hY
      have hz1 : z1 = 0 := by rw [e1, Nat.mul_mod, hY0, Nat.zero_mul, Nat.zero_mod]
      rw [e2, hz1]
      rfl
    · have hne : z2 ≠ 0 := by
        intro hz
        rw [e2] at hz
        have h1 := kc_odd z1 (by rw [e1]; exact Nat.mod_lt _ kP_pos) hz
        rw [e1] at h1
        rcases kf_zero kP_prime h1 with h2 | h2
        · rw [← Nat.zero_mod kP, ← kj_f_eq, hY, ← kj_f_mul, ← kj_f_mul, ← kj_f_mul, kj_f_eq, Nat.zero_mod] at h2
          rcases kf_zero kP_prime h2 with h3 | h3
          · rw [Nat.mod_eq_of_lt hq2] at h3
            exact hy h3
          · rcases kf_zero kP_prime h3 with h4 | h4
            · rcases kf_zero kP_prime h4 with h5 | h5
              · rw [Nat.mod_eq_of_lt hZl] at h5
                exact hZ h5
              · rw [Nat.mod_eq_of_lt hZl] at h5
                exact hZ h5
            · rw [Nat.mod_eq_of_lt hZl] at h4
              exact hZ h4
        · rw [Nat.mod_eq_of_lt hZl] at h2
          exact hZ h2
      have ht2 : (q.2 + q.2) % kP ≠ 0 := fun h0 => hy (kc_odd q.2 hq2 h0)
      have hsl := kc_slope (t1 := (q.1 * q.1 % kP + (q.1 * q.1 % kP + q.1 * q.1 % kP) % kP) % kP) (Nat.mod_lt (q.2 + q.2) kP_pos) ht2
      have e : kc_twice (some q) = some (kc_line ((q.1 * q.1 % kP + (q.1 * q.1 % kP + q.1 * q.1 % kP) % kP) % kP) ((q.2 + q.2) % kP) q.1 q.2 q.1) := by
        rw [kc_twice_some, if_neg hy]
      rw [e]
      generalize hS : ((q.1 * q.1 % kP + (q.1 * q.1 % kP + q.1 * q.1 % kP) % kP) % kP) * kf_inv kP ((q.2 + q.2) % kP) % kP = S at hsl
      have hlt := kc_line_lt ((q.1 * q.1 % kP + (q.1 * q.1 % kP + q.1 * q.1 % kP) % kP) % kP) ((q.2 + q.2) % kP) q.1 q.2 q.1
      have hl1 : (kc_line ((q.1 * q.1 % kP + (q.1 * q.1 % kP + q.1 * q.1 % kP) % kP) % kP) ((q.2 + q.2) % kP) q.1 q.2 q.1).1 = kp_dif kP (kp_dif kP (S * S % kP) q.1) q.1 := by rw [← hS]; rfl
      have hl2 : (kc_line ((q.1 * q.1 % kP + (q.1 * q.1 % kP + q.1 * q.1 % kP) % kP) % kP) ((q.2 + q.2) % kP) q.1 q.2 q.1).2 = kp_dif kP (kp_dif kP q.1 (kp_dif kP (kp_dif kP (S * S % kP) q.1) q.1) * S % kP) q.2 := by rw [← hS]; rfl
      refine ⟨hz2, hlt.1, hlt.2, hne, ?_⟩
      rw [hl1, hl2]
      simp only [kj_f_mod, kj_f_add, kj_f_mul, kj_f_dif] at hsl f1 ⊢
      have g3 : kj_f sq = kj_f Y * kj_f Y := by rw [e3, kj_f_mod, kj_f_mul]
      have g6 : kj_f s4 = kj_f X * kj_f sq + kj_f X * kj_f sq + (kj_f X * kj_f sq + kj_f X * kj_f sq) := by rw [e6, e5, e4, kj_f_mod, kj_f_add, kj_f_mod, kj_f_add, kj_f_mod, kj_f_mul]
      have g9 : kj_f rise = kj_f X * kj_f X + kj_f X * kj_f X + kj_f X * kj_f X := by rw [e9, e8, e7, kj_f_mod, kj_f_add, kj_f_mod, kj_f_add, kj_f_mod, kj_f_mul]
      have g12 : kj_f x3 = kj_f rise * kj_f rise - kj_f s4 - kj_f s4 := by rw [e12, e11, e10, kj_f_dif, kj_f_dif, kj_f_mod, kj_f_mul]
      have g18 : kj_f y2 = kj_f rise * (kj_f s4 - kj_f x3) - ((kj_f sq + kj_f sq) * (kj_f sq + kj_f sq) + (kj_f sq + kj_f sq) * (kj_f sq + kj_f sq)) := by
        rw [e18, e17, e16, e15, e14, e13, kj_f_dif, kj_f_mod, kj_f_mul, kj_f_dif, kj_f_mod, kj_f_add, kj_f_mod, kj_f_mul, kj_f_mod, kj_f_add]
      haveI : NeZero kP := ⟨by decide +kernel⟩
      exact kj_dbl (kj_f X) (kj_f Y) (kj_f Z) (kj_f q.1) (kj_f q.2) (kj_f S) _ _ (kj_f z2) (kj_f sq) (kj_f s4) (kj_f rise) (kj_f x3) (kj_f y2) hX hY hsl rfl (by grind) f1 g3 g6 g9 g12 g18
theorem kc_unit {Z a : Nat} (hZl : Z < kP) (hZ : Z ≠ 0) (ha : a < kP) (n : Nat) (h : kj_f a * kj_f (Z ^ n) = kj_f 0) : a = 0 := by
  rw [← kj_f_mul, kj_f_eq, Nat.zero_mod] at h
  rcases kf_zero kP_prime h with h1 | h1
  · rw [Nat.mod_eq_of_lt ha] at h1
    exact h1
  · have h2 := pm_pow kP_prime n (Nat.dvd_of_mod_eq_zero h1)
    have h3 := Nat.mod_eq_zero_of_dvd h2
    rw [Nat.mod_eq_of_lt hZl] at h3
    exact absurd h3 hZ
/-- the line from the running sum to the point -/
theorem kc_measure {q : Nat × Nat} {X Y Z bx by1 sq r1 run s2 i1 rise : Nat} (h : kc_rep (some q) X Y Z) (hbx : bx < kP) (hby : by1 < kP)
    (e1 : sq = Z * Z % kP) (e2 : r1 = bx * sq % kP) (e3 : run = kp_dif kP r1 X) (e4 : s2 = sq * Z % kP) (e5 : i1 = by1 * s2 % kP) (e6 : rise = kp_dif kP i1 Y) :
    (kj_f run = kj_f bx * (kj_f Z * kj_f Z) - kj_f X ∧ kj_f rise = kj_f by1 * (kj_f Z * kj_f Z * kj_f Z) - kj_f Y) ∧ (run = 0 ↔ q.1 = bx) ∧ (rise = 0 ↔ q.2 = by1) := by
  obtain ⟨hZl, hq1, hq2, hZ, hX, hY⟩ := h
  have g1 : kj_f run = kj_f bx * (kj_f Z * kj_f Z) - kj_f X := by rw [e3, e2, e1, kj_f_dif, kj_f_mod, kj_f_mul, kj_f_mod, kj_f_mul]
  have g2 : kj_f rise = kj_f by1 * (kj_f Z * kj_f Z * kj_f Z) - kj_f Y := by rw [e6, e5, e4, e1, kj_f_dif, kj_f_mod, kj_f_mul, kj_f_mod, kj_f_mul, kj_f_mod, kj_f_mul]
  have hr : run < kP := by rw [e3]; exact kp_dif_lt kP_pos
  have hi : rise < kP := by rw [e6]; exact kp_dif_lt kP_pos
  haveI : NeZero kP := ⟨by decide +kernel⟩
  refine ⟨⟨g1, g2⟩, ⟨fun h0 => ?_, fun h0 => ?_⟩, ⟨fun h0 => ?_, fun h0 => ?_⟩⟩
  · have k1 : kj_f (kp_dif kP bx q.1) * kj_f (Z ^ 2) = kj_f 0 := by
      rw [← h0, g1, hX, kj_f_dif, show Z ^ 2 = Z * Z by grind, kj_f_mul]
      grind
    have k2 := kc_unit hZl hZ (kp_dif_lt kP_pos) 2 k1
    rw [← kc_f0 (kp_dif_lt kP_pos), kj_f_dif] at k2
    have k3 : kj_f q.1 = kj_f bx := by
      have k4 : kj_f (0 : Nat) = 0 := rfl
      rw [k4] at k2
      grind
    exact (kc_fe hq1 hbx).mp k3
  · rw [← kc_f0 hr, g1, hX, h0]
    have k4 : kj_f (0 : Nat) = 0 := rfl
    rw [k4]
    grind
  · have k1 : kj_f (kp_dif kP by1 q.2) * kj_f (Z ^ 3) = kj_f 0 := by
      rw [← h0, g2, hY, kj_f_dif, show Z ^ 3 = Z * Z * Z by grind, kj_f_mul, kj_f_mul]
      grind
    have k2 := kc_unit hZl hZ (kp_dif_lt kP_pos) 3 k1
    rw [← kc_f0 (kp_dif_lt kP_pos), kj_f_dif] at k2
    have k3 : kj_f q.2 = kj_f by1 := by
      have k4 : kj_f (0 : Nat) = 0 := rfl
      rw [k4] at k2
      grind
    exact (kc_fe hq2 hby).mp k3
  · rw [← kc_f0 hi, g2, hY, h0]
    have k4 : kj_f (0 : Nat) = 0 := rfl
    rw [k4]
    grind
theorem kc_rep_follow {q : Nat × Nat} {X Y Z bx by1 run rise z1 sq cu sh x1 x2 x3 x4 s2 c2 y1 y2 : Nat} (h : kc_rep (some q) X Y Z) (hbx : bx < kP) (hby : by1 < kP)
    (g1 : kj_f run = kj_f bx * (kj_f Z * kj_f Z) - kj_f X) (g2 : kj_f rise = kj_f by1 * (kj_f Z * kj_f Z * kj_f Z) - kj_f Y) (hrl : run < kP) (hr0 : run ≠ 0) (hne : q.1 ≠ bx)
    (e1 : z1 = Z * run % kP) (e2 : sq = run * run % kP) (e3 : cu = sq * run % kP) (e4 : sh = X * sq % kP) (e5 : x1 = rise * rise % kP) (e6 : x2 = kp_dif kP x1 cu) (e7 : x3 = kp_dif kP x2 sh) (e8 : x4 = kp_dif kP x3 sh)
    (e9 : s2 = kp_dif kP sh x4) (e10 : c2 = cu * Y % kP) (e11 : y1 = rise * s2 % kP) (e12 : y2 = kp_dif kP y1 c2) : kc_rep (kc_join (some q) bx by1) x4 y2 z1 := by
  obtain ⟨hZl, hq1, hq2, hZ, hX, hY⟩ := h
  have hz1 : z1 < kP := by rw [e1]; exact Nat.mod_lt _ kP_pos
  have hz0 : z1 ≠ 0 := by
    intro h0
    rw [e1] at h0
    rcases kf_zero kP_prime h0 with h1 | h1
    · rw [Nat.mod_eq_of_lt hZl] at h1
      exact hZ h1
    · rw [Nat.mod_eq_of_lt hrl] at h1
      exact hr0 h1
  have e : kc_join (some q) bx by1 = some (kc_line (kp_dif kP by1 q.2) (kp_dif kP bx q.1) q.1 q.2 bx) := by
    rw [kc_join_some, if_neg hne]
  rw [e]
  haveI : NeZero kP := ⟨by decide +kernel⟩
  have ht2 : kp_dif kP bx q.1 ≠ 0 := by
    intro h0
    rw [← kc_f0 (kp_dif_lt kP_pos), kj_f_dif] at h0
    have k4 : kj_f (0 : Nat) = 0 := rfl
    rw [k4] at h0
    have k3 : kj_f q.1 = kj_f bx := by grind
    exact hne ((kc_fe hq1 hbx).mp k3)
  have hsl := kc_slope (t1 := kp_dif kP by1 q.2) (kp_dif_lt kP_pos) ht2
  generalize hS : kp_dif kP by1 q.2 * kf_inv kP (kp_dif kP bx q.1) % kP = S at hsl
  have hlt := kc_line_lt (kp_dif kP by1 q.2) (kp_dif kP bx q.1) q.1 q.2 bx
  have hl1 : (kc_line (kp_dif kP by1 q.2) (kp_dif kP bx q.1) q.1 q.2 bx).1 = kp_dif kP (kp_dif kP (S * S % kP) q.1) bx := by rw [← hS]; rfl
  have hl2 : (kc_line (kp_dif kP by1 q.2) (kp_dif kP bx q.1) q.1 q.2 bx).2 = kp_dif kP (kp_dif kP q.1 (kp_dif kP (kp_dif kP (S * S % kP) q.1) bx) * S % kP) q.2 := by rw [← hS]; rfl
  refine ⟨hz1, hlt.1, hlt.2, hz0, ?_⟩
  rw [hl1, hl2]
  simp only [kj_f_mod, kj_f_add, kj_f_mul, kj_f_dif] at hsl ⊢
  have f1 : kj_f z1 = kj_f Z * kj_f run := by rw [e1, kj_f_mod, kj_f_mul]
  have f2 : kj_f sq = kj_f run * kj_f run := by rw [e2, kj_f_mod, kj_f_mul]
  have f3 : kj_f cu = kj_f sq * kj_f run := by rw [e3, kj_f_mod, kj_f_mul]
  have f4 : kj_f sh = kj_f X * kj_f sq := by rw [e4, kj_f_mod, kj_f_mul]
  have f8 : kj_f x4 = kj_f rise * kj_f rise - kj_f cu - kj_f sh - kj_f sh := by rw [e8, e7, e6, e5, kj_f_dif, kj_f_dif, kj_f_dif, kj_f_mod, kj_f_mul]
  have f12 : kj_f y2 = kj_f rise * (kj_f sh - kj_f x4) - kj_f cu * kj_f Y := by rw [e12, e11, e10, e9, kj_f_dif, kj_f_mod, kj_f_mul, kj_f_dif, kj_f_mod, kj_f_mul]
  exact kj_add (kj_f X) (kj_f Y) (kj_f Z) (kj_f q.1) (kj_f q.2) (kj_f bx) (kj_f by1) (kj_f S) _ _ (kj_f run) (kj_f rise) (kj_f z1) (kj_f sq) (kj_f cu) (kj_f sh) (kj_f x4) (kj_f y2) hX hY hsl rfl (by grind) g1 g2 f1 f2 f3 f4 f8 f12
theorem kc_rep_end {q : Nat × Nat} {X Y Z w w2 w3 x y : Nat} (h : kc_rep (some q) X Y Z) (e1 : w = kf_inv kP Z) (e2 : w2 = w * w % kP) (e3 : w3 = w2 * w % kP) (e4 : x = X * w2 % kP) (e5 : y = Y * w3 % kP) : x = q.1 ∧ y = q.2 := by
  obtain ⟨hZl, hq1, hq2, hZ, hX, hY⟩ := h
  have hx : x < kP := by rw [e4]; exact Nat.mod_lt _ kP_pos
  have hy : y < kP := by rw [e5]; exact Nat.mod_lt _ kP_pos
  have hw := kc_inv hZl hZ
  haveI : NeZero kP := ⟨by decide +kernel⟩
  have k1 : kj_f (1 : Nat) = 1 := rfl
  rw [← e1, k1] at hw
  have h2 := kj_end (kj_f X) (kj_f Y) (kj_f Z) (kj_f q.1) (kj_f q.2) (kj_f w) hX hY hw
  constructor
  · apply (kc_fe hx hq1).mp
    rw [e4, e2, kj_f_mod, kj_f_mul, kj_f_mod, kj_f_mul]
    exact h2.1
  · apply (kc_fe hy hq2).mp
    rw [e5, e3, e2, kj_f_mod, kj_f_mul, kj_f_mod, kj_f_mul, kj_f_mod, kj_f_mul]
    exact h2.2
end
