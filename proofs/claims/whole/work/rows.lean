section
/-! Primes: Euclid, Fermat's little theorem, Pocklington's test by powers of 2 (own rows). -/
def pm_prime (p : Nat) : Prop := 2 ≤ p ∧ ∀ d, d ∣ p → d = 1 ∨ d = p
theorem pm_cop {p a : Nat} (hp : pm_prime p) (h : ¬ p ∣ a) : Nat.Coprime p a := by
  rcases hp.2 (Nat.gcd p a) (Nat.gcd_dvd_left p a) with e | e
  · exact e
  · have q := Nat.gcd_dvd_right p a
    rw [e] at q
    exact absurd q h
theorem pm_euclid {p a b : Nat} (hp : pm_prime p) (h : p ∣ a * b) : p ∣ a ∨ p ∣ b := by
  by_cases ha : p ∣ a
  · exact Or.inl ha
  · exact Or.inr ((pm_cop hp ha).dvd_of_dvd_mul_left h)
theorem pm_pow {p a : Nat} (hp : pm_prime p) : ∀ n, p ∣ a ^ n → p ∣ a
  | 0, h => by
    rw [Nat.pow_zero] at h
    have h1 := Nat.le_of_dvd (by decide) h
    have h2 := hp.1
    omega
  | n + 1, h => by
    rw [Nat.pow_succ] at h
    rcases pm_euclid hp h with q | q
    · exact pm_pow hp n q
    · exact q
def pm_ch : Nat → Nat → Nat
  | _, 0 => 1
  | 0, _ + 1 => 0
  | n + 1, k + 1 => pm_ch n k + pm_ch n (k + 1)
theorem pm_ch_n0 (n : Nat) : pm_ch n 0 = 1 := by cases n <;> simp [pm_ch]
theorem pm_ch_0s (k : Nat) : pm_ch 0 (k + 1) = 0 := by simp [pm_ch]
theorem pm_ch_ss (n k : Nat) : pm_ch (n + 1) (k + 1) = pm_ch n k + pm_ch n (k + 1) := by simp [pm_ch]
theorem pm_ch_big : ∀ n k, n < k → pm_ch n k = 0
  | 0, 0, h => by omega
  | 0, k + 1, _ => pm_ch_0s k
  | n + 1, 0, h => by omega
  | n + 1, k + 1, h => by rw [pm_ch_ss, pm_ch_big n k (by omega), pm_ch_big n (k + 1) (by omega)]
theorem pm_ch_self : ∀ n, pm_ch n n = 1
  | 0 => pm_ch_n0 0
  | n + 1 => by rw [pm_ch_ss, pm_ch_self n, pm_ch_big n (n + 1) (by omega)]
theorem pm_ch_mul : ∀ n k, (k + 1) * pm_ch (n + 1) (k + 1) = (n + 1) * pm_ch n k
  | 0, 0 => by simp [pm_ch]
  | 0, k + 1 => by rw [pm_ch_ss, pm_ch_0s, pm_ch_0s]; simp
  | n + 1, 0 => by
    have h := pm_ch_mul n 0
    rw [pm_ch_ss, pm_ch_n0]
    rw [pm_ch_n0] at h
    omega
  | n + 1, k + 1 => by
    have h1 := pm_ch_mul n k
    have h2 := pm_ch_mul n (k + 1)
    rw [pm_ch_ss] at h1 h2
    rw [pm_ch_ss, pm_ch_ss n k, pm_ch_ss n (k + 1)]
    generalize pm_ch n k = A at *
    generalize pm_ch n (k + 1) = B at *
    generalize pm_ch n (k + 1 + 1) = C at *
    have e1 : (k + 1 + 1) * (A + B + (B + C)) = (k + 1) * (A + B) + (A + B) + (k + 1 + 1) * (B + C) := by grind
    have e2 : (n + 1 + 1) * (A + B) = (n + 1) * A + (n + 1) * B + (A + B) := by grind
    omega
def pm_sm (f : Nat → Nat) : Nat → Nat
  | 0 => 0
  | n + 1 => pm_sm f n + f n
theorem pm_sm_s (f : Nat → Nat) (n : Nat) : pm_sm f (n + 1) = pm_sm f n + f n := rfl
theorem pm_sm_shift (f : Nat → Nat) : ∀ n, pm_sm f (n + 1) = f 0 + pm_sm (fun k => f (k + 1)) n
  | 0 => by simp [pm_sm]
  | n + 1 => by
    rw [pm_sm_s f (n + 1), pm_sm_shift f n, pm_sm_s (fun k => f (k + 1)) n]
    omega
theorem pm_sm_congr {f g : Nat → Nat} : ∀ n, (∀ k, k < n → f k = g k) → pm_sm f n = pm_sm g n
  | 0, _ => rfl
  | n + 1, h => by rw [pm_sm_s, pm_sm_s, pm_sm_congr n (fun k hk => h k (by omega)), h n (by omega)]
theorem pm_sm_add (f g : Nat → Nat) : ∀ n, pm_sm (fun k => f k + g k) n = pm_sm f n + pm_sm g n
  | 0 => rfl
  | n + 1 => by
    rw [pm_sm_s, pm_sm_s, pm_sm_s, pm_sm_add f g n]
    omega
theorem pm_sm_mul (c : Nat) (f : Nat → Nat) : ∀ n, pm_sm (fun k => c * f k) n = c * pm_sm f n
  | 0 => rfl
  | n + 1 => by rw [pm_sm_s, pm_sm_s, pm_sm_mul c f n, Nat.mul_add]
theorem pm_sm_dvd {p : Nat} {f : Nat → Nat} : ∀ n, (∀ k, k < n → p ∣ f k) → p ∣ pm_sm f n
  | 0, _ => Nat.dvd_zero p
  | n + 1, h => by
    rw [pm_sm_s]
    exact Nat.dvd_add (pm_sm_dvd n (fun k hk => h k (by omega))) (h n (by omega))
theorem pm_binom (a : Nat) : ∀ n, (a + 1) ^ n = pm_sm (fun k => pm_ch n k * a ^ k) (n + 1)
  | 0 => by simp [pm_sm, pm_ch]
  | n + 1 => by
    have ih := pm_binom a n
    have e1 : pm_sm (fun k => pm_ch (n + 1) k * a ^ k) (n + 1 + 1) = 1 + (a * pm_sm (fun k => pm_ch n k * a ^ k) (n + 1) + pm_sm (fun k => pm_ch n (k + 1) * a ^ (k + 1)) (n + 1)) := by
      rw [pm_sm_shift]
      show pm_ch (n + 1) 0 * a ^ 0 + pm_sm (fun k => pm_ch (n + 1) (k + 1) * a ^ (k + 1)) (n + 1) = _
      rw [pm_ch_n0, Nat.pow_zero, Nat.one_mul]
      have h1 := pm_sm_mul a (fun k => pm_ch n k * a ^ k) (n + 1)
      have h2 := pm_sm_add (fun k => a * (pm_ch n k * a ^ k)) (fun k => pm_ch n (k + 1) * a ^ (k + 1)) (n + 1)
      have h3 : pm_sm (fun k => pm_ch (n + 1) (k + 1) * a ^ (k + 1)) (n + 1) = pm_sm (fun k => a * (pm_ch n k * a ^ k) + pm_ch n (k + 1) * a ^ (k + 1)) (n + 1) := by
        apply pm_sm_congr
        intro k _
        rw [pm_ch_ss, Nat.add_mul, Nat.pow_succ]
        grind
      rw [h3, h2, h1]
    have e2 : pm_sm (fun k => pm_ch n k * a ^ k) (n + 1) = 1 + pm_sm (fun k => pm_ch n (k + 1) * a ^ (k + 1)) (n + 1) := by
      have h := pm_sm_shift (fun k => pm_ch n k * a ^ k) (n + 1)
      rw [pm_sm_s] at h
      have h : pm_sm (fun k => pm_ch n k * a ^ k) (n + 1) + pm_ch n (n + 1) * a ^ (n + 1) = pm_ch n 0 * a ^ 0 + pm_sm (fun k => pm_ch n (k + 1) * a ^ (k + 1)) (n + 1) := h
      rw [pm_ch_big n (n + 1) (by omega), pm_ch_n0, Nat.pow_zero, Nat.zero_mul, Nat.one_mul, Nat.add_zero] at h
      exact h
    rw [Nat.pow_succ, ih, e1, Nat.mul_add, Nat.mul_one, Nat.mul_comm _ a]
    omega
theorem pm_ch_dvd {p k : Nat} (hp : pm_prime p) (h0 : 0 < k) (hk : k < p) : p ∣ pm_ch p k := by
  obtain ⟨n, rfl⟩ : ∃ n, p = n + 1 := ⟨p - 1, by omega⟩
  obtain ⟨j, rfl⟩ : ∃ j, k = j + 1 := ⟨k - 1, by omega⟩
  have h := pm_ch_mul n j
  have hd : (n + 1) ∣ (j + 1) * pm_ch (n + 1) (j + 1) := by
    rw [h]
    exact Nat.dvd_mul_right _ _
  rcases pm_euclid hp hd with q | q
  · exact absurd (Nat.le_of_dvd (by omega) q) (by omega)
  · exact q
theorem pm_step {p : Nat} (hp : pm_prime p) (a : Nat) : (a + 1) ^ p % p = (a ^ p + 1) % p := by
  obtain ⟨n, rfl⟩ : ∃ n, p = n + 1 := ⟨p - 1, by have := hp.1; omega⟩
  have hd : (n + 1) ∣ pm_sm (fun k => pm_ch (n + 1) (k + 1) * a ^ (k + 1)) n := pm_sm_dvd n (fun k hk => Nat.dvd_trans (pm_ch_dvd hp (by omega) (by omega)) (Nat.dvd_mul_right _ _))
  have e : (a + 1) ^ (n + 1) = pm_ch (n + 1) 0 * a ^ 0 + pm_sm (fun k => pm_ch (n + 1) (k + 1) * a ^ (k + 1)) n + pm_ch (n + 1) (n + 1) * a ^ (n + 1) := by
    rw [pm_binom a (n + 1), pm_sm_s, pm_sm_shift]
  obtain ⟨c, hc⟩ := hd
  rw [e, hc, pm_ch_self, pm_ch_n0, Nat.pow_zero, Nat.one_mul, Nat.one_mul]
  generalize a ^ (n + 1) = X
  rw [show 1 + (n + 1) * c + X = (X + 1) + (n + 1) * c by omega, Nat.add_mul_mod_self_left]
theorem pm_fermat {p : Nat} (hp : pm_prime p) : ∀ a, a ^ p % p = a % p
  | 0 => by rw [Nat.zero_pow (by have := hp.1; omega)]
  | a + 1 => by rw [pm_step hp a, Nat.add_mod, pm_fermat hp a, ← Nat.add_mod]
theorem pm_fermat1 {p a : Nat} (hp : pm_prime p) (h : ¬ p ∣ a) : a ^ (p - 1) % p = 1 := by
  have h2 := hp.1
  have ha : 0 < a := Nat.pos_of_ne_zero (fun e => h (by rw [e]; exact Nat.dvd_zero p))
  have h1 := pm_fermat hp a
  have e : a ^ p = a * a ^ (p - 1) := by
    have q : p = (p - 1) + 1 := by omega
    calc a ^ p = a ^ ((p - 1) + 1) := by rw [← q]
      _ = a * a ^ (p - 1) := by rw [Nat.pow_succ, Nat.mul_comm]
  have hp1 : 0 < a ^ (p - 1) := Nat.pow_pos_iff.mpr (Or.inl ha)
  have hd : p ∣ a * (a ^ (p - 1) - 1) := by
    rw [Nat.mul_sub, Nat.mul_one, ← e]
    exact Nat.dvd_of_mod_eq_zero (Nat.sub_mod_eq_zero_of_mod_eq h1)
  rcases pm_euclid hp hd with q | q
  · exact absurd q h
  · obtain ⟨c, hc⟩ := q
    have e2 : a ^ (p - 1) = 1 + p * c := by omega
    rw [e2, Nat.add_mul_mod_self_left, Nat.mod_eq_of_lt (by omega)]
theorem pm_pgcd {b p : Nat} (m n : Nat) : b ^ m % p = 1 % p → b ^ n % p = 1 % p → b ^ (Nat.gcd m n) % p = 1 % p := by
  induction m, n using Nat.gcd.induction with
  | H0 n =>
    intro _ h
    rw [Nat.gcd_zero_left]
    exact h
  | H1 m n hm ih =>
    intro h1 h2
    rw [Nat.gcd_rec]
    refine ih ?_ h1
    have e : b ^ n = (b ^ m) ^ (n / m) * b ^ (n % m) := by rw [← Nat.pow_mul, ← Nat.pow_add, Nat.div_add_mod]
    rw [e, Nat.mul_mod, Nat.pow_mod, h1, ← Nat.pow_mod, Nat.one_pow, ← Nat.mul_mod, Nat.one_mul] at h2
    exact h2
theorem pm_dvp {b r : Nat} (h : 1 ≤ r) : b ∣ b ^ r := by
  have q := Nat.pow_dvd_pow b h
  rw [Nat.pow_one] at q
  exact q
theorem pm_pock {n a k r p : Nat} (hn0 : 2 ≤ n) (hr : pm_prime r) (hp : pm_prime p) (hpn : p ∣ n) (h1 : a ^ (r * k) % n = 1) (h2 : Nat.gcd (a ^ k % n + n - 1) n = 1) : r ∣ p - 1 := by
  apply Classical.byContradiction
  intro hd
  have hp2 := hp.1
  have hr2 := hr.1
  have hb : (a ^ k) ^ r % p = 1 % p := by
    rw [← Nat.pow_mul, Nat.mul_comm, ← Nat.mod_mod_of_dvd _ hpn, h1]
  have hnp : ¬ p ∣ a ^ k := by
    intro q
    have q2 := Nat.mod_eq_zero_of_dvd (Nat.dvd_trans q (pm_dvp (b := a ^ k) (r := r) (by omega)))
    rw [hb, Nat.mod_eq_of_lt (by omega)] at q2
    omega
  have hf : (a ^ k) ^ (p - 1) % p = 1 % p := by
    rw [pm_fermat1 hp hnp, Nat.mod_eq_of_lt (by omega)]
  have hg := pm_pgcd r (p - 1) hb hf
  have hc : Nat.gcd r (p - 1) = 1 := pm_cop hr hd
  rw [hc, Nat.pow_one] at hg
  have h3 : (a ^ k % n) % p = 1 % p := by rw [Nat.mod_mod_of_dvd _ hpn]; exact hg
  have h4 : p ∣ a ^ k % n + n - 1 := by
    obtain ⟨c, hc⟩ := hpn
    have h5 := Nat.div_add_mod (a ^ k % n) p
    have e1 : 1 % p = 1 := Nat.mod_eq_of_lt (by omega)
    rw [h3, e1] at h5
    generalize a ^ k % n = X at *
    refine ⟨X / p + c, ?_⟩
    rw [Nat.mul_add, ← hc]
    omega
  have h6 := Nat.dvd_gcd h4 hpn
  rw [h2] at h6
  have h7 := Nat.le_of_dvd (by decide) h6
  omega
theorem pm_exists (m : Nat) : 2 ≤ m → ∃ p, pm_prime p ∧ p ∣ m := by
  induction m using Nat.strongRecOn with
  | ind m ih =>
    intro h
    by_cases hp : pm_prime m
    · exact ⟨m, hp, Nat.dvd_refl m⟩
    · have hx : ∃ d, d ∣ m ∧ d ≠ 1 ∧ d ≠ m := by
        apply Classical.byContradiction
        intro hn
        apply hp
        refine ⟨h, fun d hd => ?_⟩
        by_cases e1 : d = 1
        · exact Or.inl e1
        · by_cases e2 : d = m
          · exact Or.inr e2
          · exact absurd ⟨d, hd, e1, e2⟩ hn
      obtain ⟨d, hd, h1, h2⟩ := hx
      have hle := Nat.le_of_dvd (by omega) hd
      have h0 : d ≠ 0 := by
        intro e
        rw [e] at hd
        have := Nat.eq_zero_of_zero_dvd hd
        omega
      obtain ⟨p, hp, hpd⟩ := ih d (by omega) (by omega)
      exact ⟨p, hp, Nat.dvd_trans hpd hd⟩
theorem pm_two {n : Nat} (hn : 2 ≤ n) (key : ∀ x y, x * y = n → 2 ≤ x → x ≤ y → False) : pm_prime n := by
  refine ⟨hn, fun d hd => ?_⟩
  obtain ⟨e, he⟩ := hd
  by_cases h1 : d = 1
  · exact Or.inl h1
  · by_cases h2 : d = n
    · exact Or.inr h2
    · have d0 : d ≠ 0 := by
        intro q
        rw [q, Nat.zero_mul] at he
        omega
      have e0 : e ≠ 0 := by
        intro q
        rw [q, Nat.mul_zero] at he
        omega
      have e1 : e ≠ 1 := by
        intro q
        rw [q, Nat.mul_one] at he
        exact h2 he.symm
      rcases Nat.le_total d e with q | q
      · exact absurd (key d e he.symm (by omega) q) id
      · exact absurd (key e d (by rw [Nat.mul_comm]; exact he.symm) (by omega) q) id
theorem pm_of {n F : Nat} (hn : 2 ≤ n) (hF : n ≤ F * F) (h : ∀ p, pm_prime p → p ∣ n → F ∣ p - 1) : pm_prime n := by
  refine pm_two hn (fun x y hxy hx hle => ?_)
  obtain ⟨p, hp, hpx⟩ := pm_exists x hx
  have hpn : p ∣ n := by
    rw [← hxy]
    exact Nat.dvd_trans hpx (Nat.dvd_mul_right x y)
  have hp2 := hp.1
  have h1 := Nat.le_of_dvd (by omega) (h p hp hpn)
  have h2 := Nat.le_of_dvd (by omega) hpx
  have h3 : (F + 1) * (F + 1) ≤ p * p := Nat.mul_le_mul (by omega) (by omega)
  have h4 : p * p ≤ x * y := Nat.mul_le_mul h2 (Nat.le_trans h2 hle)
  have h5 : (F + 1) * (F + 1) = F * F + F + F + 1 := by grind
  omega
theorem pm_small {n : Nat} (b : Nat) (hn : 2 ≤ n) (hb : n < b * b) (h : (List.range b).all (fun d => decide (d < 2) || !(n % d == 0)) = true) : pm_prime n := by
  refine pm_two hn (fun x y hxy hx hle => ?_)
  have hx1 : x < b := by
    apply Classical.byContradiction
    intro q
    have h1 : b * b ≤ x * x := Nat.mul_le_mul (by omega) (by omega)
    have h2 : x * x ≤ x * y := Nat.mul_le_mul (Nat.le_refl x) hle
    omega
  have h3 := List.all_eq_true.mp h x (List.mem_range.mpr hx1)
  have h4 : n % x = 0 := by
    rw [← hxy]
    exact Nat.mul_mod_right x y
  rw [h4] at h3
  simp at h3
  omega
/-- a to the e modulo n, by squares -/
def pm_pw (n a : Nat) : Nat → Nat → Nat
  | 0, _ => 1 % n
  | f + 1, e => cond (Nat.beq (e % 2) 0) (pm_pw n a f (e / 2) * pm_pw n a f (e / 2) % n) (pm_pw n a f (e / 2) * pm_pw n a f (e / 2) % n * a % n)
theorem pm_pw_s (n a f e : Nat) : pm_pw n a (f + 1) e = cond (Nat.beq (e % 2) 0) (pm_pw n a f (e / 2) * pm_pw n a f (e / 2) % n) (pm_pw n a f (e / 2) * pm_pw n a f (e / 2) % n * a % n) := rfl
theorem pm_pw_eq (n a : Nat) : ∀ f e, e < 2 ^ f → pm_pw n a f e = a ^ e % n
  | 0, e, h => by
    have e0 : e = 0 := by rw [Nat.pow_zero] at h; omega
    rw [e0, Nat.pow_zero]
    rfl
  | f + 1, e, h => by
    rw [Nat.pow_succ] at h
    have ih := pm_pw_eq n a f (e / 2) (by omega)
    rw [pm_pw_s, ih]
    rcases Nat.mod_two_eq_zero_or_one e with h0 | h0
    · rw [h0]
      show a ^ (e / 2) % n * (a ^ (e / 2) % n) % n = a ^ e % n
      rw [← Nat.mul_mod, ← Nat.pow_add, show e / 2 + e / 2 = e by omega]
    · rw [h0]
      show a ^ (e / 2) % n * (a ^ (e / 2) % n) % n * a % n = a ^ e % n
      rw [← Nat.mul_mod, ← Nat.pow_add, Nat.mod_mul_mod, ← Nat.pow_succ, show (e / 2 + e / 2).succ = e by omega]
def pm_chk (n k r f : Nat) : Bool := Nat.ble 2 n && (Nat.ble (r * k + 1) (2 ^ f) && (Nat.beq (pm_pw n 2 f (r * k)) 1 && Nat.beq (Nat.gcd (pm_pw n 2 f k + n - 1) n) 1))
theorem pm_pockw {n k r p : Nat} (f : Nat) (hr : pm_prime r) (hp : pm_prime p) (hpn : p ∣ n) (h : pm_chk n k r f = true) : r ∣ p - 1 := by
  unfold pm_chk at h
  rw [Bool.and_eq_true, Bool.and_eq_true, Bool.and_eq_true] at h
  obtain ⟨h0, h1, h2, h3⟩ := h
  have h0 := Nat.le_of_ble_eq_true h0
  have h1 := Nat.le_of_ble_eq_true h1
  have h2 := Nat.eq_of_beq_eq_true h2
  have h3 := Nat.eq_of_beq_eq_true h3
  have hk : k ≤ r * k := Nat.le_mul_of_pos_left k (by have := hr.1; omega)
  rw [pm_pw_eq n 2 f _ (by omega)] at h2
  rw [pm_pw_eq n 2 f _ (by omega)] at h3
  exact pm_pock h0 hr hp hpn h2 h3
theorem pm_p0 : pm_prime 7 := pm_small 3 (by decide) (by decide +kernel) (by decide +kernel)
theorem pm_p1 : pm_prime 29 := pm_small 6 (by decide) (by decide +kernel) (by decide +kernel)
theorem pm_p2 : pm_prime 53 := pm_small 8 (by decide) (by decide +kernel) (by decide +kernel)
theorem pm_p3 : pm_prime 1871 := pm_small 44 (by decide) (by decide +kernel) (by decide +kernel)
theorem pm_p4 : pm_prime 9349 := pm_small 97 (by decide) (by decide +kernel) (by decide +kernel)
theorem pm_p5 : pm_prime 20113 := pm_small 142 (by decide) (by decide +kernel) (by decide +kernel)
theorem pm_p6 : pm_prime 28181 := pm_small 168 (by decide) (by decide +kernel) (by decide +kernel)
theorem pm_p7 : pm_prime 96557 := pm_small 311 (by decide) (by decide +kernel) (by decide +kernel)
theorem pm_p8 : pm_prime 120233 := pm_small 347 (by decide) (by decide +kernel) (by decide +kernel)
theorem pm_p9_5 {p : Nat} (hp : pm_prime p) (hd : p ∣ 1206781) : 20113 ∣ p - 1 := pm_pockw (n := 1206781) (k := 60) (r := 20113) 21 pm_p5 hp hd (by decide +kernel)
theorem pm_p9 : pm_prime 1206781 := pm_of (F := 20113) (by decide +kernel) (by decide +kernel) (fun p hp hd => (pm_p9_5 hp hd))
theorem pm_p10_3 {p : Nat} (hp : pm_prime p) (hd : p ∣ 1627771) : 1871 ∣ p - 1 := pm_pockw (n := 1627771) (k := 870) (r := 1871) 21 pm_p3 hp hd (by decide +kernel)
theorem pm_p10 : pm_prime 1627771 := pm_of (F := 1871) (by decide +kernel) (by decide +kernel) (fun p hp hd => (pm_p10_3 hp hd))
theorem pm_p11_9 {p : Nat} (hp : pm_prime p) (hd : p ∣ 7240687) : 1206781 ∣ p - 1 := pm_pockw (n := 7240687) (k := 6) (r := 1206781) 23 pm_p9 hp hd (by decide +kernel)
theorem pm_p11 : pm_prime 7240687 := pm_of (F := 1206781) (by decide +kernel) (by decide +kernel) (fun p hp hd => (pm_p11_9 hp hd))
theorem pm_p12_4 {p : Nat} (hp : pm_prime p) (hd : p ∣ 44706919) : 9349 ∣ p - 1 := pm_pockw (n := 44706919) (k := 4782) (r := 9349) 26 pm_p4 hp hd (by decide +kernel)
theorem pm_p12 : pm_prime 44706919 := pm_of (F := 9349) (by decide +kernel) (by decide +kernel) (fun p hp hd => (pm_p12_4 hp hd))
theorem pm_p13_2 {p : Nat} (hp : pm_prime p) (hd : p ∣ 107590001) : 53 ∣ p - 1 := pm_pockw (n := 107590001) (k := 2030000) (r := 53) 27 pm_p2 hp hd (by decide +kernel)
theorem pm_p13_1 {p : Nat} (hp : pm_prime p) (hd : p ∣ 107590001) : 29 ∣ p - 1 := pm_pockw (n := 107590001) (k := 3710000) (r := 29) 27 pm_p1 hp hd (by decide +kernel)
theorem pm_p13_0 {p : Nat} (hp : pm_prime p) (hd : p ∣ 107590001) : 7 ∣ p - 1 := pm_pockw (n := 107590001) (k := 15370000) (r := 7) 27 pm_p0 hp hd (by decide +kernel)
theorem pm_p13 : pm_prime 107590001 := by
  refine pm_of (F := 10759) (by decide +kernel) (by decide +kernel) (fun p hp hd => ?_)
  have h0 : 53 ∣ p - 1 := pm_p13_2 hp hd
  have h1 : 1537 ∣ p - 1 := by
    rw [show 1537 = 53 * 29 by decide +kernel]
    exact Nat.Coprime.mul_dvd_of_dvd_of_dvd (show Nat.gcd 53 29 = 1 by decide +kernel) h0 (pm_p13_1 hp hd)
  have h2 : 10759 ∣ p - 1 := by
    rw [show 10759 = 1537 * 7 by decide +kernel]
    exact Nat.Coprime.mul_dvd_of_dvd_of_dvd (show Nat.gcd 1537 7 = 1 by decide +kernel) h1 (pm_p13_0 hp hd)
  exact h2
theorem pm_p14_6 {p : Nat} (hp : pm_prime p) (hd : p ∣ 545358713) : 28181 ∣ p - 1 := pm_pockw (n := 545358713) (k := 19352) (r := 28181) 30 pm_p6 hp hd (by decide +kernel)
theorem pm_p14 : pm_prime 545358713 := pm_of (F := 28181) (by decide +kernel) (by decide +kernel) (fun p hp hd => (pm_p14_6 hp hd))
theorem pm_p15_10 {p : Nat} (hp : pm_prime p) (hd : p ∣ 297159362677) : 1627771 ∣ p - 1 := pm_pockw (n := 297159362677) (k := 182556) (r := 1627771) 39 pm_p10 hp hd (by decide +kernel)
theorem pm_p15 : pm_prime 297159362677 := pm_of (F := 1627771) (by decide +kernel) (by decide +kernel) (fun p hp hd => (pm_p15_10 hp hd))
theorem pm_p16_12 {p : Nat} (hp : pm_prime p) (hd : p ∣ 174723607534414371449) : 44706919 ∣ p - 1 := pm_pockw (n := 174723607534414371449) (k := 3908200597192) (r := 44706919) 68 pm_p12 hp hd (by decide +kernel)
theorem pm_p16_8 {p : Nat} (hp : pm_prime p) (hd : p ∣ 174723607534414371449) : 120233 ∣ p - 1 := pm_pockw (n := 174723607534414371449) (k := 1453208416444856) (r := 120233) 68 pm_p8 hp hd (by decide +kernel)
theorem pm_p16 : pm_prime 174723607534414371449 := by
  refine pm_of (F := 5375246992127) (by decide +kernel) (by decide +kernel) (fun p hp hd => ?_)
  have h0 : 44706919 ∣ p - 1 := pm_p16_12 hp hd
  have h1 : 5375246992127 ∣ p - 1 := by
    rw [show 5375246992127 = 44706919 * 120233 by decide +kernel]
    exact Nat.Coprime.mul_dvd_of_dvd_of_dvd (show Nat.gcd 44706919 120233 = 1 by decide +kernel) h0 (pm_p16_8 hp hd)
  exact h1
theorem pm_p17_15 {p : Nat} (hp : pm_prime p) (hd : p ∣ 29047611873442575647497758179) : 297159362677 ∣ p - 1 := pm_pockw (n := 29047611873442575647497758179) (k := 97750956294169114) (r := 297159362677) 95 pm_p15 hp hd (by decide +kernel)
theorem pm_p17_14 {p : Nat} (hp : pm_prime p) (hd : p ∣ 29047611873442575647497758179) : 545358713 ∣ p - 1 := pm_pockw (n := 29047611873442575647497758179) (k := 53263313083699784306) (r := 545358713) 95 pm_p14 hp hd (by decide +kernel)
theorem pm_p17 : pm_prime 29047611873442575647497758179 := by
  refine pm_of (F := 162058447585428954701) (by decide +kernel) (by decide +kernel) (fun p hp hd => ?_)
  have h0 : 297159362677 ∣ p - 1 := pm_p17_15 hp hd
  have h1 : 162058447585428954701 ∣ p - 1 := by
    rw [show 162058447585428954701 = 297159362677 * 545358713 by decide +kernel]
    exact Nat.Coprime.mul_dvd_of_dvd_of_dvd (show Nat.gcd 297159362677 545358713 = 1 by decide +kernel) h0 (pm_p17_14 hp hd)
  exact h1
theorem pm_p18_17 {p : Nat} (hp : pm_prime p) (hd : p ∣ 341948486974166000522343609283189) : 29047611873442575647497758179 ∣ p - 1 := pm_pockw (n := 341948486974166000522343609283189) (k := 11772) (r := 29047611873442575647497758179) 109 pm_p17 hp hd (by decide +kernel)
theorem pm_p18 : pm_prime 341948486974166000522343609283189 := pm_of (F := 29047611873442575647497758179) (by decide +kernel) (by decide +kernel) (fun p hp hd => (pm_p18_17 hp hd))
theorem pm_p19_13 {p : Nat} (hp : pm_prime p) (hd : p ∣ 255515944373312847190720520512484175977) : 107590001 ∣ p - 1 := pm_pockw (n := 255515944373312847190720520512484175977) (k := 2374904191824599455024826335976) (r := 107590001) 128 pm_p13 hp hd (by decide +kernel)
theorem pm_p19_11 {p : Nat} (hp : pm_prime p) (hd : p ∣ 255515944373312847190720520512484175977) : 7240687 ∣ p - 1 := pm_pockw (n := 255515944373312847190720520512484175977) (k := 35288908963101546467996824129048) (r := 7240687) 128 pm_p11 hp hd (by decide +kernel)
theorem pm_p19_7 {p : Nat} (hp : pm_prime p) (hd : p ∣ 255515944373312847190720520512484175977) : 96557 ∣ p - 1 := pm_pockw (n := 255515944373312847190720520512484175977) (k := 2646270538369179315748423423599368) (r := 96557) 128 pm_p7 hp hd (by decide +kernel)
theorem pm_p19 : pm_prime 255515944373312847190720520512484175977 := by
  refine pm_of (F := 75220367286300824659) (by decide +kernel) (by decide +kernel) (fun p hp hd => ?_)
  have h0 : 107590001 ∣ p - 1 := pm_p19_13 hp hd
  have h1 : 779025521570687 ∣ p - 1 := by
    rw [show 779025521570687 = 107590001 * 7240687 by decide +kernel]
    exact Nat.Coprime.mul_dvd_of_dvd_of_dvd (show Nat.gcd 107590001 7240687 = 1 by decide +kernel) h0 (pm_p19_11 hp hd)
  have h2 : 75220367286300824659 ∣ p - 1 := by
    rw [show 75220367286300824659 = 779025521570687 * 96557 by decide +kernel]
    exact Nat.Coprime.mul_dvd_of_dvd_of_dvd (show Nat.gcd 779025521570687 96557 = 1 by decide +kernel) h1 (pm_p19_7 hp hd)
  exact h2
theorem pm_p20_19 {p : Nat} (hp : pm_prime p) (hd : p ∣ 205115282021455665897114700593932402728804164701536103180137503955397371) : 255515944373312847190720520512484175977 ∣ p - 1 := pm_pockw (n := 205115282021455665897114700593932402728804164701536103180137503955397371) (k := 802749442992798076634733441528810) (r := 255515944373312847190720520512484175977) 237 pm_p19 hp hd (by decide +kernel)
theorem pm_p20 : pm_prime 205115282021455665897114700593932402728804164701536103180137503955397371 := pm_of (F := 255515944373312847190720520512484175977) (by decide +kernel) (by decide +kernel) (fun p hp hd => (pm_p20_19 hp hd))
theorem pm_p21_18 {p : Nat} (hp : pm_prime p) (hd : p ∣ 115792089237316195423570985008687907852837564279074904382605163141518161494337) : 341948486974166000522343609283189 ∣ p - 1 := pm_pockw (n := 115792089237316195423570985008687907852837564279074904382605163141518161494337) (k := 338624364920977752681389262317185522840540224) (r := 341948486974166000522343609283189) 256 pm_p18 hp hd (by decide +kernel)
theorem pm_p21_16 {p : Nat} (hp : pm_prime p) (hd : p ∣ 115792089237316195423570985008687907852837564279074904382605163141518161494337) : 174723607534414371449 ∣ p - 1 := pm_pockw (n := 115792089237316195423570985008687907852837564279074904382605163141518161494337) (k := 662715765037699607481235088557493206623080876315205958464) (r := 174723607534414371449) 256 pm_p16 hp hd (by decide +kernel)
theorem pm_p21 : pm_prime 115792089237316195423570985008687907852837564279074904382605163141518161494337 := by
  refine pm_of (F := 59746473235060985162263246577491932178200490877270861) (by decide +kernel) (by decide +kernel) (fun p hp hd => ?_)
  have h0 : 341948486974166000522343609283189 ∣ p - 1 := pm_p21_18 hp hd
  have h1 : 59746473235060985162263246577491932178200490877270861 ∣ p - 1 := by
    rw [show 59746473235060985162263246577491932178200490877270861 = 341948486974166000522343609283189 * 174723607534414371449 by decide +kernel]
    exact Nat.Coprime.mul_dvd_of_dvd_of_dvd (show Nat.gcd 341948486974166000522343609283189 174723607534414371449 = 1 by decide +kernel) h0 (pm_p21_16 hp hd)
  exact h1
theorem pm_p22_20 {p : Nat} (hp : pm_prime p) (hd : p ∣ 115792089237316195423570985008687907853269984665640564039457584007908834671663) : 205115282021455665897114700593932402728804164701536103180137503955397371 ∣ p - 1 := pm_pockw (n := 115792089237316195423570985008687907853269984665640564039457584007908834671663) (k := 564522) (r := 205115282021455665897114700593932402728804164701536103180137503955397371) 256 pm_p20 hp hd (by decide +kernel)
theorem pm_p22 : pm_prime 115792089237316195423570985008687907853269984665640564039457584007908834671663 := pm_of (F := 205115282021455665897114700593932402728804164701536103180137503955397371) (by decide +kernel) (by decide +kernel) (fun p hp hd => (pm_p22_20 hp hd))
/-- FIELD -/
def kP : Nat := 115792089237316195423570985008687907853269984665640564039457584007908834671663
/-- ORDER -/
def kN : Nat := 115792089237316195423570985008687907852837564279074904382605163141518161494337
theorem kP_val : kP = 115792089237316195423570985008687907853269984665640564039457584007908834671663 := rfl
theorem kN_val : kN = 115792089237316195423570985008687907852837564279074904382605163141518161494337 := rfl
theorem kP_prime : pm_prime kP := pm_p22
theorem kN_prime : pm_prime kN := pm_p21
end
section
/-! Numbers as rows of 32-bit words: kw_d V j is word j of V, kw_s V k x is V with word k put to x (own rows). -/
def kw_M (j : Nat) : Nat := 2 ^ (32 * j)
def kw_d (V j : Nat) : Nat := V / kw_M j % 4294967296
def kw_s (V k x : Nat) : Nat := V - kw_M k * kw_d V k + kw_M k * x
theorem kw_M_0 : kw_M 0 = 1 := rfl
theorem kw_M_s (j : Nat) : kw_M (j + 1) = kw_M j * 4294967296 := by
  unfold kw_M
  rw [Nat.mul_add, Nat.pow_add]
theorem kw_M_pos (j : Nat) : 0 < kw_M j := Nat.pow_pos_iff.mpr (Or.inl (by decide))
theorem kw_M_add (i j : Nat) : kw_M (i + j) = kw_M i * kw_M j := by
  unfold kw_M
  rw [Nat.mul_add, Nat.pow_add]
theorem kw_M_8 : kw_M 8 = 115792089237316195423570985008687907853269984665640564039457584007913129639936 := by decide +kernel
theorem kw_M_16 : kw_M 16 = kw_M 8 * kw_M 8 := kw_M_add 8 8
theorem kw_d_lt (V j : Nat) : kw_d V j < 4294967296 := Nat.mod_lt _ (by decide)
theorem kw_d_lo (V j : Nat) : V % kw_M (j + 1) = V % kw_M j + kw_M j * kw_d V j := by
  rw [kw_M_s, Nat.mod_mul]
  rfl
theorem kw_d_div (V j : Nat) : V / kw_M j = kw_d V j + 4294967296 * (V / kw_M (j + 1)) := by
  rw [kw_M_s, ← Nat.div_div_eq_div_mul]
  unfold kw_d
  have := Nat.div_add_mod (V / kw_M j) 4294967296
  omega
/-- a number, cut at word j -/
theorem kw_d_cut (V j : Nat) : V = V % kw_M j + kw_M j * (kw_d V j + 4294967296 * (V / kw_M (j + 1))) := by
  rw [← kw_d_div]
  have := Nat.div_add_mod V (kw_M j)
  omega
theorem kw_s_cut (V k x : Nat) : kw_s V k x = V % kw_M k + kw_M k * (x + 4294967296 * (V / kw_M (k + 1))) := by
  have h := kw_d_cut V k
  unfold kw_s
  generalize kw_M k = M at *
  generalize V % M = lo at *
  generalize V / kw_M (k + 1) = hi at *
  generalize kw_d V k = w at *
  rw [Nat.mul_add] at h ⊢
  omega
theorem kw_d_ws_same (V k : Nat) {x : Nat} (hx : x < 4294967296) : kw_d (kw_s V k x) k = x := by
  rw [kw_s_cut]
  unfold kw_d
  have hM := kw_M_pos k
  rw [Nat.add_mul_div_left _ _ hM, Nat.div_eq_of_lt (Nat.mod_lt V hM), Nat.zero_add, Nat.add_mul_mod_self_left, Nat.mod_eq_of_lt hx]
theorem kw_M_le {i j : Nat} (h : i ≤ j) : ∃ z, kw_M j = kw_M i * z := ⟨kw_M (j - i), by rw [← kw_M_add]; congr 1; omega⟩
theorem kw_d_mod {V j k : Nat} (h : j < k) : kw_d (V % kw_M k) j = kw_d V j := by
  obtain ⟨z, hz⟩ := kw_M_le (show j + 1 ≤ k by omega)
  unfold kw_d
  rw [hz, kw_M_s, Nat.mul_assoc, Nat.mod_mul_right_div_self, Nat.mod_mul_right_mod]
theorem kw_d_add_hi (a y : Nat) {j k : Nat} (h : j < k) : kw_d (a + kw_M k * y) j = kw_d a j := by
  rw [← kw_d_mod h, Nat.add_mul_mod_self_left, kw_d_mod h]
theorem kw_d_ws_ne (V : Nat) {k j x : Nat} (hx : x < 4294967296) (h : j ≠ k) : kw_d (kw_s V k x) j = kw_d V j := by
  by_cases hj : j < k
  · rw [kw_s_cut, kw_d_add_hi _ _ hj, kw_d_mod hj]
  · have hM := kw_M_pos k
    have e : ∀ W : Nat, kw_d W j = kw_d (W / kw_M (k + 1)) (j - (k + 1)) := by
      intro W
      unfold kw_d
      rw [Nat.div_div_eq_div_mul, ← kw_M_add]
      congr 3
      omega
    rw [e, e V]
    congr 1
    rw [kw_M_s, ← Nat.div_div_eq_div_mul, kw_s_cut, Nat.add_mul_div_left _ _ hM, Nat.div_eq_of_lt (Nat.mod_lt V hM), Nat.zero_add, Nat.add_mul_div_left _ _ (by decide), Nat.div_eq_of_lt hx, Nat.zero_add, kw_M_s]
theorem kw_d_big {V j n : Nat} (h : V < kw_M n) (hj : n ≤ j) : kw_d V j = 0 := by
  obtain ⟨z, hz⟩ := kw_M_le hj
  have hz0 : 0 < z := Nat.pos_of_ne_zero (fun e => by have := kw_M_pos j; rw [hz, e] at this; omega)
  unfold kw_d
  rw [Nat.div_eq_of_lt (Nat.lt_of_lt_of_le h (by rw [hz]; exact Nat.le_mul_of_pos_right _ hz0))]
theorem kw_d_ext {V U : Nat} : ∀ n, (∀ j, j < n → kw_d V j = kw_d U j) → V % kw_M n = U % kw_M n
  | 0, _ => by rw [kw_M_0, Nat.mod_one, Nat.mod_one]
  | n + 1, h => by rw [kw_d_lo, kw_d_lo, kw_d_ext n (fun j hj => h j (by omega)), h n (by omega)]
theorem kw_d_eq {V U n : Nat} (hV : V < kw_M n) (hU : U < kw_M n) (h : ∀ j, j < n → kw_d V j = kw_d U j) : V = U := by
  have e := kw_d_ext n h
  rw [Nat.mod_eq_of_lt hV, Nat.mod_eq_of_lt hU] at e
  exact e
theorem kw_s_lt {V k x n : Nat} (hV : V < kw_M n) (hk : k < n) (hx : x < 4294967296) : kw_s V k x < kw_M n := by
  obtain ⟨z, hz⟩ := kw_M_le (show k + 1 ≤ n by omega)
  have h1 : V / kw_M (k + 1) < z := by
    rw [hz, Nat.mul_comm] at hV
    exact Nat.div_lt_of_lt_mul (by rw [Nat.mul_comm]; exact hV)
  have hM := kw_M_pos k
  have h2 := Nat.mod_lt V hM
  rw [kw_s_cut, hz]
  generalize V / kw_M (k + 1) = hi at *
  rw [kw_M_s k]
  generalize V % kw_M k = lo at *
  generalize kw_M k = M at *
  have h3 : M * (x + 4294967296 * hi) + M ≤ M * (4294967296 * z) := by
    rw [← Nat.mul_succ]
    exact Nat.mul_le_mul (Nat.le_refl M) (by omega)
  rw [Nat.mul_assoc]
  omega
/-- the words from k on stay, the number below word k is what was put there -/
theorem kw_s_lo (V k x : Nat) (hx : x < 4294967296) : kw_s V k x % kw_M (k + 1) = V % kw_M k + kw_M k * x := by
  have e : kw_s V k x % kw_M k = V % kw_M k := by rw [kw_s_cut, Nat.add_mul_mod_self_left, Nat.mod_mod]
  rw [kw_d_lo, kw_d_ws_same V k hx, e]
/-! sums and differences, word by word -/
def kw_c (A B j : Nat) : Nat := (A % kw_M j + B % kw_M j) / kw_M j
theorem kw_c_0 (A B : Nat) : kw_c A B 0 = 0 := by
  unfold kw_c
  rw [kw_M_0, Nat.mod_one, Nat.mod_one]
theorem kw_c_le (A B j : Nat) : kw_c A B j ≤ 1 := by
  have hM := kw_M_pos j
  have h1 := Nat.mod_lt A hM
  have h2 := Nat.mod_lt B hM
  unfold kw_c
  have h3 : (A % kw_M j + B % kw_M j) / kw_M j < 2 := Nat.div_lt_of_lt_mul (by omega)
  omega
theorem kw_c_step (A B j : Nat) : (kw_d A j + kw_d B j + kw_c A B j) / 4294967296 = kw_c A B (j + 1) ∧ (kw_d A j + kw_d B j + kw_c A B j) % 4294967296 = kw_d (A + B) j := by
  have hM := kw_M_pos j
  constructor
  · have e : A % kw_M (j + 1) + B % kw_M (j + 1) = (A % kw_M j + B % kw_M j) + kw_M j * (kw_d A j + kw_d B j) := by
      rw [kw_d_lo, kw_d_lo, Nat.mul_add]
      omega
    show _ = (A % kw_M (j + 1) + B % kw_M (j + 1)) / kw_M (j + 1)
    rw [e, kw_M_s, ← Nat.div_div_eq_div_mul, Nat.add_mul_div_left _ _ hM]
    show _ = (kw_c A B j + (kw_d A j + kw_d B j)) / 4294967296
    congr 1
    omega
  · have e : (A + B) / kw_M j = kw_c A B j + (A / kw_M j + B / kw_M j) := by
      have hA := Nat.div_add_mod A (kw_M j)
      have hB := Nat.div_add_mod B (kw_M j)
      have e2 : A + B = (A % kw_M j + B % kw_M j) + kw_M j * (A / kw_M j + B / kw_M j) := by
        rw [Nat.mul_add]
        omega
      unfold kw_c
      rw [← Nat.add_mul_div_left _ _ hM, ← e2]
    show _ = (A + B) / kw_M j % 4294967296
    rw [e]
    unfold kw_d
    omega
theorem kw_c_end {A B : Nat} (hA : A < kw_M 8) (hB : B < kw_M 8) : kw_c A B 8 = (A + B) / kw_M 8 := by
  unfold kw_c
  rw [Nat.mod_eq_of_lt hA, Nat.mod_eq_of_lt hB]
def kw_b (A B j : Nat) : Nat := if A % kw_M j < B % kw_M j then 1 else 0
theorem kw_b_0 (A B : Nat) : kw_b A B 0 = 0 := by
  unfold kw_b
  rw [kw_M_0, Nat.mod_one, Nat.mod_one]
  rfl
theorem kw_b_le (A B j : Nat) : kw_b A B j ≤ 1 := by
  unfold kw_b
  split <;> omega
theorem kw_b_step (A B j : Nat) : (if kw_d A j < kw_d B j + kw_b A B j then 1 else 0) = kw_b A B (j + 1) := by
  have hM := kw_M_pos j
  have h1 := Nat.mod_lt A hM
  have h2 := Nat.mod_lt B hM
  show _ = if A % kw_M (j + 1) < B % kw_M (j + 1) then 1 else 0
  rw [kw_d_lo, kw_d_lo]
  unfold kw_b
  generalize kw_d A j = a
  generalize kw_d B j = b
  generalize A % kw_M j = a0 at *
  generalize B % kw_M j = b0 at *
  generalize kw_M j = M at *
  have key : (a < b + (if a0 < b0 then 1 else 0)) ↔ a0 + M * a < b0 + M * b := by
    rcases Nat.lt_trichotomy a b with h | h | h
    · have h3 : M * (a + 1) ≤ M * b := Nat.mul_le_mul (Nat.le_refl M) h
      rw [Nat.mul_add, Nat.mul_one] at h3
      constructor
      · intro _; omega
      · intro _; omega
    · subst h
      split <;> constructor <;> intro _ <;> omega
    · have h3 : M * (b + 1) ≤ M * a := Nat.mul_le_mul (Nat.le_refl M) h
      rw [Nat.mul_add, Nat.mul_one] at h3
      constructor
      · intro h4
        split at h4 <;> omega
      · intro _; omega
  by_cases h : a < b + (if a0 < b0 then 1 else 0)
  · rw [if_pos h, if_pos (key.mp h)]
  · rw [if_neg h, if_neg (fun q => h (key.mpr q))]
theorem kw_b_word (A B X j : Nat) (hX : B ≤ kw_M (j + 1) * X) : (kw_d A j + 4294967296 - kw_d B j - kw_b A B j) % 4294967296 = kw_d (A + kw_M (j + 1) * X - B) j := by
  have hM := kw_M_pos j
  have h1 := Nat.mod_lt A hM
  have h2 := Nat.mod_lt B hM
  have cA := kw_d_cut A j
  have cB := kw_d_cut B j
  have lA := kw_d_lt A j
  have lB := kw_d_lt B j
  have hq : (A + kw_M (j + 1) * X - B) / kw_M j % 4294967296 = (kw_d A j + 4294967296 - kw_d B j - kw_b A B j) % 4294967296 := by
    rw [kw_M_s] at hX ⊢
    rw [Nat.mul_assoc] at hX ⊢
    have hbX : B / kw_M j ≤ 4294967296 * X := by
      have h5 := Nat.div_add_mod B (kw_M j)
      apply Nat.le_of_mul_le_mul_left _ hM
      omega
    rw [kw_d_div B j] at hbX
    unfold kw_b
    generalize kw_d A j = a at *
    generalize kw_d B j = b at *
    generalize A % kw_M j = a0 at *
    generalize B % kw_M j = b0 at *
    generalize A / (kw_M j * 4294967296) = ah at *
    generalize hbh : B / kw_M (j + 1) = bh at *
    generalize A / kw_M (j + 1) = ah at *
    generalize kw_M j = M at *
    by_cases hlt : a0 < b0
    · rw [if_pos hlt]
      have hpos : b + 4294967296 * bh + 1 ≤ a + 4294967296 * ah + 4294967296 * X := by
        apply Classical.byContradiction
        intro hn
        have h6 : M * (4294967296 * X) ≤ M * (b + 4294967296 * bh) := Nat.mul_le_mul (Nat.le_refl M) (by omega)
        omega
      have e : A + M * (4294967296 * X) - B = (a0 + M - b0) + M * (a + 4294967296 * ah + 4294967296 * X - (b + 4294967296 * bh) - 1) := by
        rw [Nat.mul_sub, Nat.mul_sub, Nat.mul_add, Nat.mul_one]
        have h7 : M * (b + 4294967296 * bh + 1) ≤ M * (a + 4294967296 * ah + 4294967296 * X) := Nat.mul_le_mul (Nat.le_refl M) hpos
        rw [Nat.mul_add, Nat.mul_one, Nat.mul_add M (a + 4294967296 * ah)] at h7
        omega
      rw [e, Nat.add_mul_div_left _ _ hM, Nat.div_eq_of_lt (by omega)]
      omega
    · rw [if_neg hlt]
      have e : A + M * (4294967296 * X) - B = (a0 - b0) + M * (a + 4294967296 * ah + 4294967296 * X - (b + 4294967296 * bh)) := by
        rw [Nat.mul_sub, Nat.mul_add]
        have h7 : M * (b + 4294967296 * bh) ≤ M * (a + 4294967296 * ah + 4294967296 * X) := Nat.mul_le_mul (Nat.le_refl M) (by omega)
        rw [Nat.mul_add M (a + 4294967296 * ah)] at h7
        omega
      rw [e, Nat.add_mul_div_left _ _ hM, Nat.div_eq_of_lt (by omega)]
      omega
  unfold kw_d at hq ⊢
  exact hq.symm
/-- A less B, around 2^256 -/
def kw_sub (A B : Nat) : Nat := (A + kw_M 8 - B) % kw_M 8
theorem kw_sub_lt (A B : Nat) : kw_sub A B < kw_M 8 := Nat.mod_lt _ (kw_M_pos 8)
theorem kw_sub_word {A B j : Nat} (hB : B < kw_M 8) (hj : j < 8) : (kw_d A j + 4294967296 - kw_d B j - kw_b A B j) % 4294967296 = kw_d (kw_sub A B) j := by
  obtain ⟨z, hz⟩ := kw_M_le (show j + 1 ≤ 8 by omega)
  unfold kw_sub
  rw [kw_d_mod hj, hz]
  rw [hz] at hB
  exact kw_b_word A B z j (by omega)
theorem kw_b_end {A B : Nat} (hA : A < kw_M 8) (hB : B < kw_M 8) : kw_b A B 8 = if A < B then 1 else 0 := by
  unfold kw_b
  rw [Nat.mod_eq_of_lt hA, Nat.mod_eq_of_lt hB]
end
section
/-! The wb_ rows: pasted from the kit (laws/BITS.to-paste), as it allows. -/
/-! ===== lN n to 2^64: shifts, and, or, masks, one bit ===== -/
theorem wb_tb (n : Nat) : (lN n).toBitVec = BitVec.ofNat 64 n := rfl
theorem wb_inj {a b : Int64} (h : a.toBitVec = b.toBitVec) : a = b := Int64.toBitVec_inj.mp h
theorem wb_tn {n : Nat} (h : n < 2 ^ 64) : (lN n).toBitVec.toNat = n := by rw [wb_tb, BitVec.toNat_ofNat, Nat.mod_eq_of_lt h]
theorem wb_of (x : Int64) : ∃ n, n < 2 ^ 64 ∧ x = lN n := ⟨x.toBitVec.toNat, x.toBitVec.isLt, wb_inj (by rw [wb_tb]; simp)⟩
theorem wb_of32 (x : Int32) : ∃ n, n < 2 ^ 32 ∧ x = nI n := ⟨x.toBitVec.toNat, x.toBitVec.isLt, Int32.toBitVec_inj.mp (by show _ = BitVec.ofNat 32 _; simp)⟩
theorem wb_c : ∀ k, k < 64 → ((nI k).toInt64 &&& 63) = lN k := by decide +kernel
theorem wb_cu : ∀ k, k < 64 → ((nI k).toInt64.toUInt64 &&& Int64.toUInt64 63) = UInt64.ofNat k := by decide +kernel
theorem wb_sm : ∀ k, k < 64 → (BitVec.ofNat 64 k).smod 64 = BitVec.ofNat 64 k := by decide +kernel
theorem wb_pw {a b : Nat} (h : a ≤ b) : 2 ^ b = 2 ^ a * 2 ^ (b - a) := by rw [← Nat.pow_add]; congr 1; omega
theorem wb_lt2 {a b : Nat} (h : a < b) : 2 ^ a < 2 ^ b := Nat.pow_lt_pow_right (by decide) h
theorem wb_mod (n : Nat) : lN n = lN (n % 2 ^ 64) := wb_inj (by rw [wb_tb, wb_tb]; apply BitVec.eq_of_toNat_eq; rw [BitVec.toNat_ofNat, BitVec.toNat_ofNat, Nat.mod_mod])
theorem wb_shr {n k : Nat} (hn : n < 2 ^ 64) (hk : k < 64) : ((lN n).toUInt64 >>> ((nI k).toInt64.toUInt64 &&& Int64.toUInt64 63)).toInt64 = lN (n / 2 ^ k) := by
  rw [wb_cu k hk]
  apply wb_inj
  apply BitVec.eq_of_toNat_eq
  show ((lN n).toUInt64 >>> UInt64.ofNat k).toNat = (BitVec.ofNat 64 _).toNat
  have h1 : (UInt64.ofNat k).toNat = k := by
    show (BitVec.ofNat 64 k).toNat = k
    rw [BitVec.toNat_ofNat, Nat.mod_eq_of_lt (by omega)]
  have h2 : (lN n).toUInt64.toNat = n := wb_tn hn
  rw [UInt64.toNat_shiftRight, h1, h2, Nat.mod_eq_of_lt hk, Nat.shiftRight_eq_div_pow, BitVec.toNat_ofNat, Nat.mod_eq_of_lt (Nat.lt_of_le_of_lt (Nat.div_le_self _ _) hn)]
theorem wb_shl (n : Nat) {k : Nat} (hk : k < 64) : lN n <<< ((nI k).toInt64 &&& 63) = lN (n * 2 ^ k) := by
  rw [wb_c k hk]
  apply wb_inj
  rw [Int64.toBitVec_shiftLeft, wb_tb, wb_tb, wb_tb, wb_sm k hk]
  apply BitVec.eq_of_toNat_eq
  rw [BitVec.shiftLeft_eq', BitVec.toNat_shiftLeft, BitVec.toNat_ofNat, BitVec.toNat_ofNat, BitVec.toNat_ofNat, Nat.mod_eq_of_lt (show k < 2 ^ 64 by omega), Nat.shiftLeft_eq, Nat.mul_mod, Nat.mod_mod, ← Nat.mul_mod]
theorem wb_and {a b : Nat} (ha : a < 2 ^ 64) (hb : b < 2 ^ 64) : lN a &&& lN b = lN (a &&& b) := by
  apply wb_inj
  rw [Int64.toBitVec_and, wb_tb, wb_tb, wb_tb]
  apply BitVec.eq_of_toNat_eq
  rw [BitVec.toNat_and, BitVec.toNat_ofNat, BitVec.toNat_ofNat, BitVec.toNat_ofNat, Nat.mod_eq_of_lt ha, Nat.mod_eq_of_lt hb, Nat.mod_eq_of_lt (Nat.and_lt_two_pow _ hb)]
theorem wb_or {a b : Nat} (ha : a < 2 ^ 64) (hb : b < 2 ^ 64) : lN a ||| lN b = lN (a ||| b) := by
  apply wb_inj
  rw [Int64.toBitVec_or, wb_tb, wb_tb, wb_tb]
  apply BitVec.eq_of_toNat_eq
  rw [BitVec.toNat_or, BitVec.toNat_ofNat, BitVec.toNat_ofNat, BitVec.toNat_ofNat, Nat.mod_eq_of_lt ha, Nat.mod_eq_of_lt hb, Nat.mod_eq_of_lt (Nat.or_lt_two_pow ha hb)]
theorem wb_mask {n k : Nat} (hn : n < 2 ^ 64) (hk : k < 64) : lN n &&& lN (2 ^ k - 1) = lN (n % 2 ^ k) := by
  rw [wb_and hn (by have := wb_lt2 hk; omega), Nat.and_two_pow_sub_one_eq_mod]
theorem wb_a1 {n : Nat} (hn : n < 2 ^ 64) : lN n &&& 1 = lN (n % 2) := wb_mask (k := 1) hn (by decide)
theorem wb_bit {n k : Nat} (hn : n < 2 ^ 64) (hk : k < 64) : ((lN n).toUInt64 >>> ((nI k).toInt64.toUInt64 &&& Int64.toUInt64 63)).toInt64 &&& 1 = lN (n / 2 ^ k % 2) := by
  rw [wb_shr hn hk, wb_a1 (Nat.lt_of_le_of_lt (Nat.div_le_self _ _) hn)]
/-! Rows of words in the heap, and the machine's rules over them (own rows). -/
theorem kq_lsub {a b : Nat} (hb : b ≤ 18446744073709551616) : lN a - lN b = lN (a + 18446744073709551616 - b) := by
  apply wb_inj
  rw [Int64.toBitVec_sub, wb_tb, wb_tb, wb_tb]
  apply BitVec.eq_of_toNat_eq
  rw [BitVec.toNat_sub, BitVec.toNat_ofNat, BitVec.toNat_ofNat, BitVec.toNat_ofNat]
  omega
theorem kq_mask (n : Nat) : lN n &&& lN 4294967295 = lN (n % 4294967296) := by
  rw [wb_mod n]
  have h := wb_mask (n := n % 2 ^ 64) (k := 32) (Nat.mod_lt _ (by decide)) (by decide)
  rw [show (4294967295 : Nat) = 2 ^ 32 - 1 by decide, h]
  congr 1
  omega
theorem kq_ushr32 {n : Nat} (hn : n < 18446744073709551616) : ((lN n).toUInt64 >>> ((nI 32).toInt64.toUInt64 &&& Int64.toUInt64 63)).toInt64 = lN (n / 4294967296) := wb_shr (k := 32) (by omega) (by decide)
theorem kq_ushr63 {n : Nat} (hn : n < 18446744073709551616) : ((lN n).toUInt64 >>> ((nI 63).toInt64.toUInt64 &&& Int64.toUInt64 63)).toInt64 = lN (n / 9223372036854775808) := wb_shr (k := 63) (by omega) (by decide)
theorem kq_cmp_eq {a b : Nat} (ha : a < 9223372036854775808) (hb : b < 9223372036854775808) : lg_cmp (lN a) (lN b) = 0 ↔ a = b := by
  unfold lg_cmp
  have h1 := pk_lLT (a := b) (b := a) (by omega) (by omega)
  have h2 := pk_lEQ (a := a) (b := b) (by omega) (by omega)
  by_cases h : b < a
  · rw [if_pos (show lN a > lN b from h1.mpr h)]
    exact ⟨fun q => absurd q (by decide), fun q => by omega⟩
  · rw [if_neg (show ¬ lN a > lN b from fun q => h (h1.mp q))]
    by_cases h3 : a = b
    · rw [if_pos (h2.mpr h3)]
      exact ⟨fun _ => h3, fun _ => rfl⟩
    · rw [if_neg (fun q => h3 (h2.mp q))]
      exact ⟨fun q => absurd q (by decide), fun q => absurd q h3⟩
theorem kq_cmp_lt {a b : Nat} (ha : a < 9223372036854775808) (hb : b < 9223372036854775808) : lg_cmp (lN a) (lN b) < 0 ↔ a < b := by
  unfold lg_cmp
  have h1 := pk_lLT (a := b) (b := a) (by omega) (by omega)
  have h2 := pk_lEQ (a := a) (b := b) (by omega) (by omega)
  by_cases h : b < a
  · rw [if_pos (show lN a > lN b from h1.mpr h)]
    exact ⟨fun q => absurd q (by decide), fun q => by omega⟩
  · rw [if_neg (show ¬ lN a > lN b from fun q => h (h1.mp q))]
    by_cases h3 : a = b
    · rw [if_pos (h2.mpr h3)]
      exact ⟨fun q => absurd q (by decide), fun q => by omega⟩
    · rw [if_neg (fun q => h3 (h2.mp q))]
      exact ⟨fun _ => by omega, fun _ => by decide⟩
/-- a boolean answer -/
def kq_z (b : Bool) : Int32 := if b = true then 1 else 0
/-- a row of n words, as longs and as ints -/
def kq_L (c : ClassId) (n V : Nat) : Cell := arrV c n (fun j => .long (lN (kw_d V j)))
def kq_I (c : ClassId) (n V : Nat) : Cell := arrV c n (fun j => .int (nI (kw_d V j)))
/-- an array that is read: its first n places hold f -/
def kq_r (U : State) (ty : FieldType) (H : Heap) (a n : Nat) (f : Nat → Value) : Prop := ∃ cell : Cell, H[a]? = some cell ∧ U.isArrayOf cell ty ∧ cell.vm ≠ .unknown ∧ n ≤ cell.slots.size ∧ ∀ j : Nat, j < n → cell.slots[j]? = some (f j)
abbrev kq_sL (U : State) (H : Heap) (a n V : Nat) : Prop := kq_r U .long H a n (fun j => .long (lN (kw_d V j)))
abbrev kq_sI (U : State) (H : Heap) (a n V : Nat) : Prop := kq_r U .int H a n (fun j => .int (nI (kw_d V j)))
/-- the heap with one cell put anew -/
def kq_set (H : Heap) (a : Nat) (x : Cell) : Heap := H.setIfInBounds a x
theorem kq_set_size (H : Heap) (a : Nat) (x : Cell) : (kq_set H a x).size = H.size := by simp [kq_set]
theorem kq_lt {H : Heap} {a : Nat} {x : Cell} (h : H[a]? = some x) : a < H.size := (Array.getElem?_eq_some_iff.mp h).1
theorem kq_set_at {H : Heap} {a : Nat} {x y : Cell} (h : H[a]? = some y) : (kq_set H a x)[a]? = some x := by
  unfold kq_set
  rw [Array.getElem?_setIfInBounds, if_pos rfl, if_pos (kq_lt h)]
theorem kq_set_ne {H : Heap} {a q : Nat} {x : Cell} (h : q ≠ a) : (kq_set H a x)[q]? = H[q]? := by
  unfold kq_set
  rw [Array.getElem?_setIfInBounds, if_neg (Ne.symm h)]
theorem kq_set_set (H : Heap) (a : Nat) (x y : Cell) : kq_set (kq_set H a x) a y = kq_set H a y := by
  unfold kq_set
  exact Array.setIfInBounds_setIfInBounds _
theorem kq_set_self {H : Heap} {a : Nat} {x : Cell} (h : H[a]? = some x) : kq_set H a x = H := by
  apply Array.ext_getElem?
  intro q
  by_cases e : q = a
  · subst e
    rw [kq_set_at h, h]
  · rw [kq_set_ne e]
theorem kq_is_set {H H1 : Heap} {a : Nat} {x y : Cell} (h : H[a]? = some y) (h1 : H1[a]? = some x) (ho : ∀ q : Nat, q ≠ a → H1[q]? = H[q]?) : H1 = kq_set H a x := by
  apply Array.ext_getElem?
  intro q
  by_cases e : q = a
  · subst e
    rw [kq_set_at h, h1]
  · rw [kq_set_ne e, ho q e]
theorem kq_lN_inj {a b : Nat} (ha : a < 4294967296) (hb : b < 4294967296) (h : lN a = lN b) : a = b := (pk_lEQ (by omega) (by omega)).mp h
theorem kq_nI_inj {a b : Nat} (ha : a < 4294967296) (hb : b < 4294967296) (h : nI a = nI b) : a = b := by
  have h1 := pk_tn (n := a) (by omega)
  have h2 := pk_tn (n := b) (by omega)
  rw [h] at h1
  omega
theorem kq_r.moved {u U : State} {ty : FieldType} {H : Heap} {a n : Nat} {f : Nat → Value} (hvm : u.vm.Alike U.vm) (h : kq_r u ty H a n f) : kq_r U ty H a n f := by
  obtain ⟨cell, h1, h2, h3⟩ := h
  exact ⟨cell, h1, State.isArrayOf_alike hvm h2, h3⟩
theorem kq_r.other {U : State} {ty : FieldType} {H H1 : Heap} {a n : Nat} {f : Nat → Value} (h : kq_r U ty H a n f) (e : H1[a]? = H[a]?) : kq_r U ty H1 a n f := by
  obtain ⟨cell, h1, h2⟩ := h
  exact ⟨cell, by rw [e]; exact h1, h2⟩
theorem kq_r.fewer {U : State} {ty : FieldType} {H : Heap} {a n k : Nat} {f : Nat → Value} (h : kq_r U ty H a n f) (hk : k ≤ n) : kq_r U ty H a k f := by
  obtain ⟨cell, h1, h2, h3, h4, h5⟩ := h
  exact ⟨cell, h1, h2, h3, by omega, fun j hj => h5 j (by omega)⟩
theorem kq_r.ofV {U : State} {ty : FieldType} {H : Heap} {a n : Nat} {c : ClassId} {f : Nat → Value} (hT : ArrOfT U c ty) (h : H[a]? = some (arrV c n f)) : kq_r U ty H a n f :=
  ⟨arrV c n f, h, hT n f, (fun q => by cases q), (by rw [arrV_size]; exact Nat.le_refl n), fun j hj => arrV_read c f hj⟩
theorem kq_r.sameL {U : State} {H : Heap} {a n n1 V V1 : Nat} {c : ClassId} (h : kq_sL U H a n V) (h1 : H[a]? = some (kq_L c n1 V1)) {j : Nat} (hj : j < n) : kw_d V j = kw_d V1 j := by
  obtain ⟨cell, g1, g2, g3, g4, g5⟩ := h
  rw [h1] at g1
  obtain rfl := Option.some.inj g1
  have e := g5 j hj
  have hs : (kq_L c n1 V1).slots.size = n1 := arrV_size c n1 _
  have hr : (kq_L c n1 V1).slots[j]? = some (.long (lN (kw_d V1 j))) := arrV_read c _ (by omega)
  rw [hr] at e
  have e2 := Option.some.inj e
  injection e2 with e3
  exact (kq_lN_inj (kw_d_lt _ _) (kw_d_lt _ _) e3).symm
theorem kq_r.sameI {U : State} {H : Heap} {a n n1 V V1 : Nat} {c : ClassId} (h : kq_sI U H a n V) (h1 : H[a]? = some (kq_I c n1 V1)) {j : Nat} (hj : j < n) : kw_d V j = kw_d V1 j := by
  obtain ⟨cell, g1, g2, g3, g4, g5⟩ := h
  rw [h1] at g1
  obtain rfl := Option.some.inj g1
  have e := g5 j hj
  have hs : (kq_I c n1 V1).slots.size = n1 := arrV_size c n1 _
  have hr : (kq_I c n1 V1).slots[j]? = some (.int (nI (kw_d V1 j))) := arrV_read c _ (by omega)
  rw [hr] at e
  have e2 := Option.some.inj e
  injection e2 with e3
  exact (kq_nI_inj (kw_d_lt _ _) (kw_d_lt _ _) e3).symm
theorem kq_L_put (c : ClassId) (n V k : Nat) {x : Nat} (hx : x < 4294967296) : arrV c n (updV (fun j => .long (lN (kw_d V j))) k (.long (lN x))) = kq_L c n (kw_s V k x) := by
  unfold kq_L
  congr 1
  funext j
  by_cases e : j = k
  · subst e
    rw [kw_d_ws_same _ _ hx]
    simp [updV]
  · rw [kw_d_ws_ne _ hx e]
    simp [updV, e]
theorem kq_I_put (c : ClassId) (n V k : Nat) {x : Nat} (hx : x < 4294967296) : arrV c n (updV (fun j => .int (nI (kw_d V j))) k (.int (nI x))) = kq_I c n (kw_s V k x) := by
  unfold kq_I
  congr 1
  funext j
  by_cases e : j = k
  · subst e
    rw [kw_d_ws_same _ _ hx]
    simp [updV]
  · rw [kw_d_ws_ne _ hx e]
    simp [updV, e]
theorem kq_arrV_congr {c : ClassId} {n : Nat} {f g : Nat → Value} (h : ∀ j, j < n → f j = g j) : arrV c n f = arrV c n g := by
  unfold arrV
  have e : (fun j : Fin n => f j.val) = (fun j : Fin n => g j.val) := funext (fun j => h j.val j.isLt)
  rw [e]
theorem kq_L_mod (c : ClassId) (n V : Nat) : kq_L c n (V % kw_M n) = kq_L c n V := kq_arrV_congr (fun j hj => by rw [kw_d_mod hj])
theorem kq_I_mod (c : ClassId) (n V : Nat) : kq_I c n (V % kw_M n) = kq_I c n V := kq_arrV_congr (fun j hj => by rw [kw_d_mod hj])
theorem kq_inc (i : Nat) : nI i + Int32.ofInt 1 = nI (i + 1) := by
  rw [show Int32.ofInt 1 = 1 by decide]
  exact nI_1 i
theorem kq_dec (i : Nat) : nI (i + 1) + Int32.ofInt (-1) = nI i := by
  rw [show Int32.ofInt (-1) = -1 by decide]
  exact pk_m1 i
/-- a row that is read while row r is being written from below: word i is still its own -/
theorem kq_mixL {U : State} {H : Heap} {a r n A R0 V i : Nat} {c : ClassId} (hs : kq_sL U H a n A) (hT : ArrOfT U c .long) (hr : H[r]? = some (kq_L c n R0)) (hV : ∀ j, i ≤ j → j < n → kw_d V j = kw_d R0 j) (hi : i < n) :
    ∃ f, kq_r U .long (kq_set H r (kq_L c n V)) a n f ∧ f i = .long (lN (kw_d A i)) := by
  by_cases e : a = r
  · subst e
    refine ⟨_, kq_r.ofV hT (kq_set_at hr), ?_⟩
    show Value.long (lN (kw_d V i)) = _
    rw [hV i (Nat.le_refl i) hi, hs.sameL hr hi]
  · exact ⟨_, hs.other (kq_set_ne e), rfl⟩
theorem kq_mixI {U : State} {H : Heap} {a r n A R0 V i : Nat} {c : ClassId} (hs : kq_sI U H a n A) (hT : ArrOfT U c .int) (hr : H[r]? = some (kq_I c n R0)) (hV : ∀ j, i ≤ j → j < n → kw_d V j = kw_d R0 j) (hi : i < n) :
    ∃ f, kq_r U .int (kq_set H r (kq_I c n V)) a n f ∧ f i = .int (nI (kw_d A i)) := by
  by_cases e : a = r
  · subst e
    refine ⟨_, kq_r.ofV hT (kq_set_at hr), ?_⟩
    show Value.int (nI (kw_d V i)) = _
    rw [hV i (Nat.le_refl i) hi, hs.sameI hr hi]
  · exact ⟨_, hs.other (kq_set_ne e), rfl⟩
theorem kq_runV {cell : Cell} {c1 : ClassId} {n k : Nat} {f g : Nat → Value} (h : ∀ j, j < k → cell.slots[j]? = some (f j)) : (arrV c1 n g).storeRun 0 (cell.stretch 0 k) = arrV c1 n (fun j => if j < k then f j else g j) := by
  have e : cell.stretch 0 k = (List.range k).map f := by
    unfold Cell.stretch
    apply List.map_congr_left
    intro i hi
    have hi' := List.mem_range.mp hi
    rw [Array.getD_eq_getD_getElem?, Nat.zero_add, h i hi']
    rfl
  rw [e, Cell.storeRun, va_pairs]
  congr 1
  funext j
  simp only [List.length_map, List.length_range, Nat.add_zero, Nat.zero_add]
  by_cases hj : j < k
  · rw [if_pos ⟨Nat.zero_le j, hj⟩, if_pos hj, List.getD_eq_getElem?_getD, List.getElem?_map, Nat.sub_zero, List.getElem?_range hj]
    rfl
  · rw [if_neg (fun q => hj q.2), if_neg hj]
/-- what is said of a state by its tables alone -/
def kq_st (B : State → Prop) : Prop := ∀ u U : State, u.vm.Alike U.vm → B u → B U
theorem kq_st.both {B C : State → Prop} (h : kq_st B) (g : kq_st C) : kq_st (fun U => B U ∧ C U) := fun u U hv q => ⟨h u U hv q.1, g u U hv q.2⟩
theorem kq_st_r {ty : FieldType} {H : Heap} {a n : Nat} {f : Nat → Value} : kq_st (fun U => kq_r U ty H a n f) := fun _ _ hv q => q.moved hv
theorem kq_st_A {c : ClassId} {ty : FieldType} : kq_st (fun U => ArrOfT U c ty) := fun _ _ hv q => arrOfT_moved hv q
theorem kq_st_p {P : Prop} : kq_st (fun _ => P) := fun _ _ _ q => q
/-- a contract's start: the arguments, the heap, and what the tables say -/
def kq_P (av : List Value) (H : Heap) (B : State → Prop) : Array Value → State → Prop := va_Pc av (fun U => U.heap = H ∧ B U)
/-- a contract's end: the answer and the heap -/
def kq_Q (post : Option Value → Heap → Prop) : Array Value → State → Outcome → State → Prop := fun _ _ o t => ∃ v : Option Value, o = .returned v ∧ post v t.heap
theorem kq_preS {s : State} {H : Heap} {As : List Value} {B : State → Prop} (hB : kq_st B) (h : B s) : PreS s H (kq_P As H B) As :=
  ⟨fun _ U _ _ q => ⟨q.1, q.2.1, hB U _ (Vm.Alike.refl U.vm) q.2.2⟩, fun U hU hW => ⟨rfl, hU, hB s U hW.alike h⟩⟩
theorem kq_preV {s : State} {H : Heap} {C : String} {b : Addr} {As : List Value} {B : State → Prop} (hB : kq_st B) (h : B s) (hc : ∃ cellB : Cell, H[b]? = some cellB ∧ cellB.vm.isStatics = false ∧ s.vm.findClass C = some cellB.cls) : PreV s H C b (kq_P (.ref b :: As) H B) As :=
  ⟨fun _ U _ _ q => ⟨q.1, q.2.1, hB U _ (Vm.Alike.refl U.vm) q.2.2⟩, hc, fun U hU hW => ⟨rfl, hU, hB s U hW.alike h⟩⟩
section KQ
variable {p : Program} {l : Launch} {e : Env} {R : Room} {s : State} {m : MethodId} {args : Array Value} {below : List Frame} {meth : Method} {c : Code} {H : Heap} {locs : List Loc} {cells slots : Nat} {Q : State → Prop}
variable {cc : ByteArray} {pc : Nat} {ls : Array Slot} {rest : List Value}
theorem kq_ri {x y : Int32} (h : x = y) (k : W p l e R s m args below meth c H locs cells slots Q (F0 m pc ls (.int y :: rest))) : W p l e R s m args below meth c H locs cells slots Q (F0 m pc ls (.int x :: rest)) := h ▸ k
theorem kq_rl {x y : Int64} (h : x = y) (k : W p l e R s m args below meth c H locs cells slots Q (F0 m pc ls (.long y :: rest))) : W p l e R s m args below meth c H locs cells slots Q (F0 m pc ls (.long x :: rest)) := h ▸ k
theorem kq_rH {H1 : Heap} {g : JFrame} (h : H = H1) (k : W p l e R s m args below meth c H1 locs cells slots Q g) : W p l e R s m args below meth c H locs cells slots Q g := h ▸ k
theorem kq_in {n j : Nat} (hj : j < n) (hn : n < 2147483648) {z : Nat} (hz : n ≤ z) : ¬ (nI j < 0 ∨ z ≤ (nI j).toNatClampNeg) := by
  intro q
  rcases q with q | q
  · exact nI_pos (by omega) q
  · rw [nI_clamp (by omega)] at q
    omega
theorem kq_lald (hexec : p.tables.exec = Jvm.exec) (hb : c.code = cc) {a n : Nat} {f : Nat → Value} (h : kq_r s .long H a n f) {j : Nat} (hj : j < n) (hn : n < 2147483648) {v : Value} (hv : f j = v) (hdg : decode cc pc = .ok (.laload, 1))
    (kk : W p l e R s m args below meth c H locs cells slots Q (F0 m (pc + 1) ls (v :: rest))) : W p l e R s m args below meth c H locs cells slots Q (F0 m pc ls (.int (nI j) :: .ref a :: rest)) := by
  obtain ⟨cell, h1, h2, h3, h4, h5⟩ := h
  exact W.lald (v := v) hexec hb h1 h2 h3 (kq_in hj hn h4) (by rw [nI_clamp (by omega), h5 j hj, hv]) rfl rfl hdg kk
theorem kq_iald (hexec : p.tables.exec = Jvm.exec) (hb : c.code = cc) {a n : Nat} {f : Nat → Value} (h : kq_r s .int H a n f) {j : Nat} (hj : j < n) (hn : n < 2147483648) {v : Value} (hv : f j = v) (hdg : decode cc pc = .ok (.iaload, 1))
    (kk : W p l e R s m args below meth c H locs cells slots Q (F0 m (pc + 1) ls (v :: rest))) : W p l e R s m args below meth c H locs cells slots Q (F0 m pc ls (.int (nI j) :: .ref a :: rest)) := by
  obtain ⟨cell, h1, h2, h3, h4, h5⟩ := h
  exact W.iald (v := v) hexec hb h1 h2 h3 (kq_in hj hn h4) (by rw [nI_clamp (by omega), h5 j hj, hv]) rfl rfl hdg kk
theorem kq_last (hexec : p.tables.exec = Jvm.exec) (hb : c.code = cc) {a n V : Nat} {cL : ClassId} (hT : ArrOfT s cL .long) (h : H[a]? = some (kq_L cL n V)) {j x : Nat} (hj : j < n) (hn : n < 2147483648) (hx : x < 4294967296) (hdg : decode cc pc = .ok (.lastore, 1))
    (kk : W p l e R s m args below meth c (kq_set H a (kq_L cL n (kw_s V j x))) (locs ++ [⟨a, j⟩]) cells slots Q (F0 m (pc + 1) ls rest)) : W p l e R s m args below meth c H locs cells slots Q (F0 m pc ls (.long (lN x) :: .int (nI j) :: .ref a :: rest)) := by
  have hsz : (kq_L cL n V).slots.size = n := arrV_size cL n _
  refine W.last hexec hb h (hT n _) (fun q => by cases q) (kq_in hj hn (by omega)) rfl rfl hdg (fun H1 e1 e2 e3 => ?_)
  rw [nI_clamp (by omega)] at e1 ⊢
  unfold kq_L at e1
  rw [arrV_store, kq_L_put cL n V j hx] at e1
  exact kq_rH (kq_is_set h e1 e3) kk
theorem kq_iast (hexec : p.tables.exec = Jvm.exec) (hb : c.code = cc) {a n V : Nat} {cL : ClassId} (hT : ArrOfT s cL .int) (h : H[a]? = some (kq_I cL n V)) {j x : Nat} (hj : j < n) (hn : n < 2147483648) (hx : x < 4294967296) (hdg : decode cc pc = .ok (.iastore, 1))
    (kk : W p l e R s m args below meth c (kq_set H a (kq_I cL n (kw_s V j x))) (locs ++ [⟨a, j⟩]) cells slots Q (F0 m (pc + 1) ls rest)) : W p l e R s m args below meth c H locs cells slots Q (F0 m pc ls (.int (nI x) :: .int (nI j) :: .ref a :: rest)) := by
  have hsz : (kq_I cL n V).slots.size = n := arrV_size cL n _
  refine W.iast hexec hb h (hT n _) (fun q => by cases q) (kq_in hj hn (by omega)) rfl rfl hdg (fun H1 e1 e2 e3 => ?_)
  rw [nI_clamp (by omega)] at e1 ⊢
  unfold kq_I at e1
  rw [arrV_store, kq_I_put cL n V j hx] at e1
  exact kq_rH (kq_is_set h e1 e3) kk
theorem kq_call {st0 : List Value} {post : Option Value → Heap → Prop} {a : Array Value} {free : Addr → Prop} (hr : va_Run p l e R s m args below meth c H locs cells slots 0 0 (F0 m pc ls st0) rest (kq_Q post a) free)
    (kk : ∀ (v : Option Value) (H1 : Heap) (L : List Loc), post v H1 → (∀ q ∈ L, free q.base) → W p l e R s m args below meth c H1 (locs ++ L) cells slots Q (F0 m (pc + 3) ls (v.toList ++ rest))) : W p l e R s m args below meth c H locs cells slots Q (F0 m pc ls st0) := by
  intro T hT X
  obtain ⟨v, st₀, t, T', L, h0, X', hL, e1, e2, ⟨w, hw, hq⟩, st⟩ := hr T hT X
  cases hw
  obtain ⟨t2, a1, b1⟩ := kk v t.heap L hq hL T' e1 X'
  exact ⟨t2, st t2 a1, b1⟩
theorem kq_copyL (hexec : p.tables.exec = Jvm.exec) (hb : c.code = cc) (hml : c.maxLocals = ls.size) {own : String} {index : Nat} (hown : s.vm.findClass own = some m.cls) (hlink : (Cond.methodLink own index arraycopyName).before args s = true) (hnat : (Cond.native arraycopyName).before args s = true) (hstat : (Cond.static arraycopyName).before args s = true) (hini : (Cond.initialized "java/lang/System").before args s = true)
    {a r V R0 : Nat} {c1 : ClassId} (h : kq_sL s H a 8 V) (hT : ArrOfT s c1 .long) (hr : H[r]? = some (kq_L c1 8 R0)) (hframes : 1 ≤ R.frames) (hlocals : (rest.map fun v => v.category).sum + (nativeFrameWords "java/lang/System" "arraycopy" 5 + 11) ≤ R.locals) (hdg : decode cc pc = .ok (.invokestatic index, 3))
    (kk : ∀ L : List Loc, (∀ q ∈ L, q.base = r) → W p l e R s m args below meth c (kq_set H r (kq_L c1 8 V)) (locs ++ L) cells slots Q (F0 m (pc + 3) ls rest)) : W p l e R s m args below meth c H locs cells slots Q (F0 m pc ls (.int (nI 8) :: .int (nI 0) :: .ref r :: .int (nI 0) :: .ref a :: rest)) := by
  obtain ⟨cell, g1, ⟨g2, k0, hk0, cm0, hkk0⟩, g3, g4, g5⟩ := h
  obtain ⟨-, k1, hk1, cm1, hkk1⟩ := hT 8 (fun j => .long (lN (kw_d R0 j)))
  intro T hTh X
  have n8 : (nI 8).toNatClampNeg = 8 := nI_clamp (by decide)
  have n0 : (nI 0).toNatClampNeg = 0 := nI_clamp (by decide)
  have i8 : (nI 8).toInt = 8 := nI_toInt (n := 8) (by decide)
  have i0 : (nI 0).toInt = 0 := nI_toInt (n := 0) (by decide)
  have hsz : (kq_L c1 8 R0).slots.size = 8 := arrV_size c1 8 _
  obtain ⟨vm', X', step⟩ := X.arraycopy hexec hown hlink hnat hstat hini (src := a) (dst := r) (cs := cell) (cd := kq_L c1 8 R0) (srcPos := nI 0) (destPos := nI 0) (n := nI 8) (by rw [hTh]; exact g1) (by rw [hTh]; exact hr)
    g2 (fun _ h => by cases h) g3 (fun h => by cases h) hk0 hk1 hkk0 hkk1 (by decide) (nI_pos (by decide)) (nI_pos (by decide)) (nI_pos (by decide))
    (by rw [i0, i8]; omega) (by rw [i0, i8, hsz]; omega)
    (fun vm₁ _ i hi => by
      rw [n8] at hi
      have e : cell.slots.getD ((nI 0).toNatClampNeg + i) .null = .long (lN (kw_d V i)) := by
        rw [Array.getD_eq_getD_getElem?, n0, Nat.zero_add, g5 i hi]
        rfl
      rw [e]
      exact ⟨rfl, trivial⟩)
    (g := F0 m pc ls (.int (nI 8) :: .int (nI 0) :: .ref r :: .int (nI 0) :: .ref a :: rest)) rfl (by rw [hml]) (rest := rest) rfl (by rw [hb]; exact hdg) hframes (by show 2 * 0 + _ + _ ≤ _; omega)
  have e1 : copied cell (kq_L c1 8 R0) (nI 0) (nI 0) (nI 8) = kq_L c1 8 V := by
    show (kq_L c1 8 R0).storeRun (nI 0).toNatClampNeg (cell.stretch (nI 0).toNatClampNeg (nI 8).toNatClampNeg) = _
    rw [n0, n8]
    unfold kq_L
    rw [kq_runV g5]
    exact kq_arrV_congr (fun j hj => if_pos hj)
  rw [e1] at X' step
  have hheap : ((T.setVm vm').setCell r (kq_L c1 8 V)).heap = kq_set H r (kq_L c1 8 V) := by rw [← hTh]; rfl
  obtain ⟨t, a1, b1⟩ := kk _ (fun q hq => by
    obtain ⟨z, -, hz⟩ := List.mem_map.mp hq
    rw [← hz]) _ hheap X'
  exact ⟨t, step t a1, b1⟩
theorem kq_copyI (hexec : p.tables.exec = Jvm.exec) (hb : c.code = cc) (hml : c.maxLocals = ls.size) {own : String} {index : Nat} (hown : s.vm.findClass own = some m.cls) (hlink : (Cond.methodLink own index arraycopyName).before args s = true) (hnat : (Cond.native arraycopyName).before args s = true) (hstat : (Cond.static arraycopyName).before args s = true) (hini : (Cond.initialized "java/lang/System").before args s = true)
    {a r V R0 : Nat} {c1 : ClassId} (h : kq_sI s H a 8 V) (hT : ArrOfT s c1 .int) (hr : H[r]? = some (kq_I c1 8 R0)) (hframes : 1 ≤ R.frames) (hlocals : (rest.map fun v => v.category).sum + (nativeFrameWords "java/lang/System" "arraycopy" 5 + 11) ≤ R.locals) (hdg : decode cc pc = .ok (.invokestatic index, 3))
    (kk : ∀ L : List Loc, (∀ q ∈ L, q.base = r) → W p l e R s m args below meth c (kq_set H r (kq_I c1 8 V)) (locs ++ L) cells slots Q (F0 m (pc + 3) ls rest)) : W p l e R s m args below meth c H locs cells slots Q (F0 m pc ls (.int (nI 8) :: .int (nI 0) :: .ref r :: .int (nI 0) :: .ref a :: rest)) := by
  obtain ⟨cell, g1, ⟨g2, k0, hk0, cm0, hkk0⟩, g3, g4, g5⟩ := h
  obtain ⟨-, k1, hk1, cm1, hkk1⟩ := hT 8 (fun j => .int (nI (kw_d R0 j)))
  intro T hTh X
  have n8 : (nI 8).toNatClampNeg = 8 := nI_clamp (by decide)
  have n0 : (nI 0).toNatClampNeg = 0 := nI_clamp (by decide)
  have i8 : (nI 8).toInt = 8 := nI_toInt (n := 8) (by decide)
  have i0 : (nI 0).toInt = 0 := nI_toInt (n := 0) (by decide)
  have hsz : (kq_I c1 8 R0).slots.size = 8 := arrV_size c1 8 _
  obtain ⟨vm', X', step⟩ := X.arraycopy hexec hown hlink hnat hstat hini (src := a) (dst := r) (cs := cell) (cd := kq_I c1 8 R0) (srcPos := nI 0) (destPos := nI 0) (n := nI 8) (by rw [hTh]; exact g1) (by rw [hTh]; exact hr)
    g2 (fun _ h => by cases h) g3 (fun h => by cases h) hk0 hk1 hkk0 hkk1 (by decide) (nI_pos (by decide)) (nI_pos (by decide)) (nI_pos (by decide))
    (by rw [i0, i8]; omega) (by rw [i0, i8, hsz]; omega)
    (fun vm₁ _ i hi => by
      rw [n8] at hi
      have e : cell.slots.getD ((nI 0).toNatClampNeg + i) .null = .int (nI (kw_d V i)) := by
        rw [Array.getD_eq_getD_getElem?, n0, Nat.zero_add, g5 i hi]
        rfl
      rw [e]
      exact ⟨rfl, trivial⟩)
    (g := F0 m pc ls (.int (nI 8) :: .int (nI 0) :: .ref r :: .int (nI 0) :: .ref a :: rest)) rfl (by rw [hml]) (rest := rest) rfl (by rw [hb]; exact hdg) hframes (by show 2 * 0 + _ + _ ≤ _; omega)
  have e1 : copied cell (kq_I c1 8 R0) (nI 0) (nI 0) (nI 8) = kq_I c1 8 V := by
    show (kq_I c1 8 R0).storeRun (nI 0).toNatClampNeg (cell.stretch (nI 0).toNatClampNeg (nI 8).toNatClampNeg) = _
    rw [n0, n8]
    unfold kq_I
    rw [kq_runV g5]
    exact kq_arrV_congr (fun j hj => if_pos hj)
  rw [e1] at X' step
  have hheap : ((T.setVm vm').setCell r (kq_I c1 8 V)).heap = kq_set H r (kq_I c1 8 V) := by rw [← hTh]; rfl
  obtain ⟨t, a1, b1⟩ := kk _ (fun q hq => by
    obtain ⟨z, -, hz⟩ := List.mem_map.mp hq
    rw [← hz]) _ hheap X'
  exact ⟨t, step t a1, b1⟩
end KQ
end
section
/-! Inverses by a power, no zero divisors, no cube root of -7 (own rows). -/
def kf_inv (m a : Nat) : Nat := a ^ (m - 2) % m
theorem kf_ndvd {m a : Nat} (h : a % m ≠ 0) : ¬ m ∣ a := fun q => h (Nat.mod_eq_zero_of_dvd q)
theorem kf_inv_mul {m a : Nat} (hm : pm_prime m) (ha : a % m ≠ 0) : a * kf_inv m a % m = 1 := by
  have h2 := hm.1
  unfold kf_inv
  rw [Nat.mul_mod_mod]
  have e : a * a ^ (m - 2) = a ^ (m - 1) := by
    have q : m - 1 = (m - 2) + 1 := by omega
    rw [q, Nat.pow_succ, Nat.mul_comm]
  rw [e]
  exact pm_fermat1 hm (kf_ndvd ha)
theorem kf_inv_lt {m a : Nat} (hm : pm_prime m) : kf_inv m a < m := Nat.mod_lt _ (by have := hm.1; omega)
theorem kf_uniq {m a x y : Nat} (hx : x < m) (hy : y < m) (h1 : a * x % m = 1) (h2 : a * y % m = 1) : x = y := by
  have hm : 1 < m := by
    apply Classical.byContradiction
    intro q
    have : a * x % m < m := Nat.mod_lt _ (by omega)
    omega
  have e1 : x * (a * y) % m = x := by rw [Nat.mul_mod, h2, Nat.mul_mod, Nat.mod_mod, ← Nat.mul_mod, Nat.mul_one, Nat.mod_eq_of_lt hx]
  have e2 : y * (a * x) % m = y := by rw [Nat.mul_mod, h1, Nat.mul_mod, Nat.mod_mod, ← Nat.mul_mod, Nat.mul_one, Nat.mod_eq_of_lt hy]
  have e3 : x * (a * y) = y * (a * x) := by grind
  rw [← e1, e3, e2]
theorem kf_zero {m a b : Nat} (hm : pm_prime m) (h : a * b % m = 0) : a % m = 0 ∨ b % m = 0 := by
  rcases pm_euclid hm (Nat.dvd_of_mod_eq_zero h) with q | q
  · exact Or.inl (Nat.mod_eq_zero_of_dvd q)
  · exact Or.inr (Nat.mod_eq_zero_of_dvd q)
theorem kf_cube_pw : pm_pw kP (kP - 7) 256 ((kP - 1) / 3) ≠ 1 := by decide +kernel
theorem kf_no_cube (x : Nat) : (x * x * x + 7) % kP ≠ 0 := by
  intro h
  have hP := kP_prime
  have h7 : (kP - 7) + 7 = kP := by decide +kernel
  have hx : ¬ kP ∣ x := by
    intro q
    obtain ⟨c, hc⟩ := q
    rw [hc] at h
    have e : kP * c * (kP * c) * (kP * c) + 7 = 7 + kP * (c * (kP * c) * (kP * c)) := by grind
    rw [e, Nat.add_mul_mod_self_left] at h
    exact absurd h (by decide +kernel)
  have h1 := pm_fermat1 hP hx
  have e3 : kP - 1 = 3 * ((kP - 1) / 3) := by decide +kernel
  rw [e3, Nat.pow_mul] at h1
  have hc : x ^ 3 % kP = (kP - 7) % kP := by
    have e4 : x ^ 3 = x * x * x := by grind
    rw [e4]
    have e5 : (x * x * x + 7 + (kP - 7)) % kP = (kP - 7) % kP := by
      rw [Nat.add_mod, h, Nat.zero_add, Nat.mod_mod]
    rw [← e5, Nat.add_assoc, Nat.add_comm 7, h7, Nat.add_mod_right]
  rw [Nat.pow_mod, hc, ← Nat.pow_mod] at h1
  have h2 := pm_pw_eq kP (kP - 7) 256 ((kP - 1) / 3) (by decide +kernel)
  exact kf_cube_pw (h2.trans h1)
end
section
/-! Sums, differences, products and powers modulo a prime m with m + G = 2^256, as the class does them (own rows). -/
def kG_P : Nat := 4294968273
def kG_N : Nat := 432420386565659656852420866394968145599
/-- m and its gap -/
def kp_ok (m G : Nat) : Prop := m + G = kw_M 8 ∧ 2 < G ∧ G < 680564733841876926926749214863536422912
theorem kp_okP : kp_ok kP kG_P := ⟨by decide +kernel, by decide +kernel, by decide +kernel⟩
theorem kp_okN : kp_ok kN kG_N := ⟨by decide +kernel, by decide +kernel, by decide +kernel⟩
theorem kp_trim {m G R : Nat} (h : kp_ok m G) (hR : R < kw_M 8) : (if R < m then R else kw_sub R m) = R % m := by
  obtain ⟨h1, h2, h3⟩ := h
  rw [kw_M_8] at *
  split
  · rename_i q
    rw [Nat.mod_eq_of_lt q]
  · rename_i q
    unfold kw_sub
    rw [kw_M_8]
    have e : R % m = R - m := by
      rw [Nat.mod_eq_sub_mod (by omega), Nat.mod_eq_of_lt (by omega)]
    rw [e]
    omega
/-- what the turns of a sum leave -/
def kp_sum (G A B : Nat) : Nat := if (A + B) / kw_M 8 = 0 then (A + B) % kw_M 8 else if ((A + B) % kw_M 8 + G) / kw_M 8 = 0 then ((A + B) % kw_M 8 + G) % kw_M 8 else (((A + B) % kw_M 8 + G) % kw_M 8 + G) % kw_M 8
theorem kp_sum_lt (G A B : Nat) : kp_sum G A B < kw_M 8 := by
  have h := kw_M_pos 8
  unfold kp_sum
  split
  · exact Nat.mod_lt _ h
  · split <;> exact Nat.mod_lt _ h
theorem kp_sum_eq {m G A B : Nat} (h : kp_ok m G) (hA : A < kw_M 8) (hB : B < kw_M 8) : kp_sum G A B % m = (A + B) % m := by
  obtain ⟨h1, h2, h3⟩ := h
  unfold kp_sum
  rw [kw_M_8] at *
  have key : ∀ x k : Nat, x = A + B - k * m → k * m ≤ A + B → x % m = (A + B) % m := by
    intro x k e hk
    rw [e, Nat.mul_comm, Nat.sub_mul_mod (by rw [Nat.mul_comm]; exact hk)]
  split
  · rename_i q
    exact key _ 0 (by omega) (by omega)
  · rename_i q
    split
    · rename_i q2
      exact key _ 1 (by omega) (by omega)
    · rename_i q2
      exact key _ 2 (by omega) (by omega)
theorem kp_sum_end {G A B m : Nat} (h : kp_ok m G) (hA : A < kw_M 8) (hB : B < kw_M 8) : (((A + B) % kw_M 8 + G) % kw_M 8 + G) / kw_M 8 = 0 ∨ ((A + B) % kw_M 8 + G) / kw_M 8 = 0 ∨ (A + B) / kw_M 8 = 0 := by
  obtain ⟨h1, h2, h3⟩ := h
  rw [kw_M_8] at *
  omega
/-- A less B modulo m -/
def kp_dif (m A B : Nat) : Nat := (A + (m - B % m)) % m
theorem kp_dif_lt {m A B : Nat} (hm : 0 < m) : kp_dif m A B < m := Nat.mod_lt _ hm
theorem kp_dif_of {m A B x : Nat} (hm : 0 < m) (h : (x + B) % m = A % m) : x % m = kp_dif m A B := by
  unfold kp_dif
  have hb := Nat.mod_lt B hm
  have e1 : (A + (m - B % m)) % m = (x + B + (m - B % m)) % m := by
    rw [Nat.add_mod, ← h, ← Nat.add_mod]
  have e2 : x + B + (m - B % m) = x + m * (B / m + 1) := by
    have := Nat.div_add_mod B m
    rw [Nat.mul_add, Nat.mul_one]
    omega
  rw [e1, e2, Nat.add_mul_mod_self_left]
def kp_sub (G A B : Nat) : Nat := if ¬ A < B then kw_sub A B else if ¬ kw_sub A B < G then kw_sub (kw_sub A B) G else kw_sub (kw_sub (kw_sub A B) G) G
theorem kp_sub_lt (G A B : Nat) : kp_sub G A B < kw_M 8 := by
  unfold kp_sub
  split
  · exact kw_sub_lt _ _
  · split <;> exact kw_sub_lt _ _
theorem kp_sub_eq {m G A B : Nat} (h : kp_ok m G) (hA : A < kw_M 8) (hB : B < kw_M 8) : kp_sub G A B % m = kp_dif m A B := by
  obtain ⟨h1, h2, h3⟩ := h
  have hm : 0 < m := by
    rw [kw_M_8] at h1
    omega
  apply kp_dif_of hm
  unfold kp_sub kw_sub
  rw [kw_M_8] at *
  have key : ∀ x k : Nat, x + B = A + m * k → (x + B) % m = A % m := by
    intro x k e
    rw [e, Nat.add_mul_mod_self_left]
  split
  · rename_i q
    exact key _ 0 (by omega)
  · rename_i q
    split
    · rename_i q2
      exact key _ 1 (by omega)
    · rename_i q2
      exact key _ 2 (by omega)
theorem kp_sub_end {G A B m : Nat} (h : kp_ok m G) (hA : A < kw_M 8) (hB : B < kw_M 8) : A < B → kw_sub A B < G → ¬ kw_sub (kw_sub A B) G < G := by
  obtain ⟨h1, h2, h3⟩ := h
  unfold kw_sub
  rw [kw_M_8] at *
  omega
/-- one fold by the gap -/
def kp_fold (G V : Nat) : Nat := V % kw_M 8 + V / kw_M 8 * G
theorem kp_fold_eq {m G V : Nat} (h : kp_ok m G) : kp_fold G V % m = V % m := by
  obtain ⟨h1, h2, h3⟩ := h
  have e := Nat.div_add_mod V (kw_M 8)
  unfold kp_fold
  generalize V % kw_M 8 = lo at *
  generalize V / kw_M 8 = hi at *
  rw [← e, ← h1, Nat.add_mul, Nat.add_comm lo, Nat.mul_comm hi G, Nat.add_assoc, Nat.mul_add_mod]
theorem kp_fold0 {G V : Nat} (h : V / kw_M 8 = 0) : kp_fold G V = V := by
  have e := Nat.div_add_mod V (kw_M 8)
  unfold kp_fold
  rw [h] at *
  omega
theorem kp_fold_le {m G V b : Nat} (h : kp_ok m G) (hb : V / kw_M 8 ≤ b) : kp_fold G V ≤ kw_M 8 - 1 + b * 680564733841876926926749214863536422911 := by
  obtain ⟨h1, h2, h3⟩ := h
  have e := Nat.mod_lt V (kw_M_pos 8)
  have e2 : V / kw_M 8 * G ≤ b * 680564733841876926926749214863536422911 := Nat.mul_le_mul hb (by omega)
  unfold kp_fold
  omega
/-- four folds are enough -/
theorem kp_four {m G V : Nat} (h : kp_ok m G) (hV : V < kw_M 16) : kp_fold G (kp_fold G (kp_fold G (kp_fold G V))) < kw_M 8 := by
  have h0 : V / kw_M 8 ≤ kw_M 8 - 1 := by
    have : V / kw_M 8 < kw_M 8 := Nat.div_lt_of_lt_mul (by rw [← kw_M_16]; exact hV)
    omega
  have g1 := kp_fold_le h h0
  generalize kp_fold G V = V1 at *
  have h1 : V1 / kw_M 8 ≤ 680564733841876926926749214863536422911 := by
    rw [kw_M_8] at *
    omega
  have g2 := kp_fold_le h h1
  generalize kp_fold G V1 = V2 at *
  have h2 : V2 / kw_M 8 ≤ 4 := by
    rw [kw_M_8] at *
    omega
  have g3 := kp_fold_le h h2
  generalize kp_fold G V2 = V3 at *
  have h3 : V3 / kw_M 8 ≤ 1 := by
    rw [kw_M_8] at *
    omega
  obtain ⟨q1, q2, q3⟩ := h
  unfold kp_fold
  have e := Nat.div_add_mod V3 (kw_M 8)
  have e1 := Nat.mod_lt V3 (kw_M_pos 8)
  generalize V3 % kw_M 8 = lo at *
  generalize V3 / kw_M 8 = hi at *
  rcases (show hi = 0 ∨ hi = 1 by omega) with rfl | rfl
  · rw [kw_M_8] at *
    omega
  · rw [kw_M_8] at *
    omega
theorem kp_fold_lt {m G V : Nat} (h : kp_ok m G) (hV : V < kw_M 16) : kp_fold G V < kw_M 16 := by
  have h0 : V / kw_M 8 ≤ kw_M 8 - 1 := by
    have : V / kw_M 8 < kw_M 8 := Nat.div_lt_of_lt_mul (by rw [← kw_M_16]; exact hV)
    omega
  have g1 := kp_fold_le h h0
  rw [kw_M_16]
  rw [kw_M_8] at *
  omega
/-- n folds -/
def kp_folds (G : Nat) : Nat → Nat → Nat
  | 0, V => V
  | n + 1, V => kp_folds G n (kp_fold G V)
theorem kp_folds_eq {m G : Nat} (h : kp_ok m G) : ∀ n V, kp_folds G n V % m = V % m
  | 0, _ => rfl
  | n + 1, V => by
    show kp_folds G n (kp_fold G V) % m = _
    rw [kp_folds_eq h n, kp_fold_eq h]
theorem kp_folds0 {G : Nat} : ∀ n V, V / kw_M 8 = 0 → kp_folds G n V = V
  | 0, _, _ => rfl
  | n + 1, V, h => by
    show kp_folds G n (kp_fold G V) = V
    rw [kp_fold0 h, kp_folds0 n V h]
theorem kp_folds4 {m G V : Nat} (h : kp_ok m G) (hV : V < kw_M 16) : kp_folds G 4 V < kw_M 8 := kp_four h hV
/-- a number to a power, bit by bit from above -/
theorem kp_bit (e k : Nat) : e / 2 ^ k = 2 * (e / 2 ^ (k + 1)) + e / 2 ^ k % 2 := by
  rw [Nat.pow_succ, ← Nat.div_div_eq_div_mul]
  omega
theorem kp_pow0 {m a e k g : Nat} (hg : g = a ^ (e / 2 ^ (k + 1)) % m) (hb : e / 2 ^ k % 2 = 0) : g * g % m = a ^ (e / 2 ^ k) % m := by
  have h := kp_bit e k
  rw [hb, Nat.add_zero] at h
  rw [h, hg, ← Nat.mul_mod, ← Nat.pow_add]
  congr 2
  omega
theorem kp_pow1 {m a e k g : Nat} (hg : g = a ^ (e / 2 ^ (k + 1)) % m) (hb : e / 2 ^ k % 2 = 1) : g * g % m * a % m = a ^ (e / 2 ^ k) % m := by
  have h := kp_bit e k
  rw [hb] at h
  rw [h, hg, ← Nat.mul_mod, ← Nat.pow_add, Nat.mod_mul_mod, ← Nat.pow_succ]
  congr 2
  omega
end
section
/-! The curve: running sums as (X / Z^2, Y / Z^3) against plain pairs, in any commutative ring, then modulo FIELD (own rows). -/
section KJ
variable {α : Type}
theorem kj_r1 [Lean.Grind.CommRing α] (y s Z : α) : s * (y * (Z * Z * Z) * Z + y * (Z * Z * Z) * Z) = ((y + y) * s) * (Z * Z * Z * Z) := by grind
theorem kj_r2 [Lean.Grind.CommRing α] (x Z : α) : (x * x + (x * x + x * x)) * (Z * Z * Z * Z) = x * (Z * Z) * (x * (Z * Z)) + x * (Z * Z) * (x * (Z * Z)) + x * (Z * Z) * (x * (Z * Z)) := by grind
theorem kj_r3 [Lean.Grind.CommRing α] (x Y Z : α) : x * (Z * Z) * (Y * Y) + x * (Z * Z) * (Y * Y) + (x * (Z * Z) * (Y * Y) + x * (Z * Z) * (Y * Y)) = x * ((Y * Z + Y * Z) * (Y * Z + Y * Z)) := by grind
theorem kj_r4 [Lean.Grind.CommRing α] (s Z x : α) : s * Z * (s * Z) - x * (Z * Z) - x * (Z * Z) = (s * s - x - x) * (Z * Z) := by grind
theorem kj_r5 [Lean.Grind.CommRing α] (y Y Z : α) : y * ((Y * Z + Y * Z) * (Y * Z + Y * Z) * (Y * Z + Y * Z)) = (Y * Y * Y + Y * Y * Y + Y * Y * Y + Y * Y * Y + (Y * Y * Y + Y * Y * Y + Y * Y * Y + Y * Y * Y)) * (y * (Z * Z * Z)) := by grind
theorem kj_r6 [Lean.Grind.CommRing α] (Y : α) : (Y * Y * Y + Y * Y * Y + Y * Y * Y + Y * Y * Y + (Y * Y * Y + Y * Y * Y + Y * Y * Y + Y * Y * Y)) * Y = (Y * Y + Y * Y) * (Y * Y + Y * Y) + (Y * Y + Y * Y) * (Y * Y + Y * Y) := by grind
theorem kj_r7 [Lean.Grind.CommRing α] (s Z x t y : α) : s * Z * (x * (Z * Z) - t * (Z * Z)) - y * (Z * Z * Z) = (s * (x - t) - y) * (Z * Z * Z) := by grind
theorem kj_dbl [Lean.Grind.CommRing α] (X Y Z x y s t u Z1 S Sh M X1 Y1 : α) (hX : X = x * (Z * Z)) (hY : Y = y * (Z * Z * Z)) (hs : (y + y) * s = x * x + (x * x + x * x))
    (ht : t = s * s - x - x) (hu : u = s * (x - t) - y) (hZ1 : Z1 = Y * Z + Y * Z) (hS : S = Y * Y) (hSh : Sh = X * S + X * S + (X * S + X * S)) (hM : M = X * X + X * X + X * X)
    (hX1 : X1 = M * M - Sh - Sh) (hY1 : Y1 = M * (Sh - X1) - ((S + S) * (S + S) + (S + S) * (S + S))) : X1 = t * (Z1 * Z1) ∧ Y1 = u * (Z1 * Z1 * Z1) := by
  have hMs : M = s * Z1 := by rw [hM, hZ1, hX, hY, kj_r1, hs, kj_r2]
  have h4 : Sh = x * (Z1 * Z1) := by rw [hSh, hS, hX, hZ1, kj_r3]
  have h1 : X1 = t * (Z1 * Z1) := by rw [hX1, hMs, h4, kj_r4, ← ht]
  have h5 : (S + S) * (S + S) + (S + S) * (S + S) = y * (Z1 * Z1 * Z1) := by rw [hS, hZ1, kj_r5, ← hY, kj_r6]
  exact ⟨h1, by rw [hY1, hMs, h4, h1, h5, kj_r7, ← hu]⟩
theorem kj_q1 [Lean.Grind.CommRing α] (b y Z : α) : b * (Z * Z * Z) - y * (Z * Z * Z) = (b - y) * (Z * Z * Z) := by grind
theorem kj_q2 [Lean.Grind.CommRing α] (b x s Z : α) : (b - x) * s * (Z * Z * Z) = s * (Z * (b * (Z * Z) - x * (Z * Z))) := by grind
theorem kj_q3 [Lean.Grind.CommRing α] (x Z r : α) : x * (Z * Z) * (r * r) = x * (Z * r * (Z * r)) := by grind
theorem kj_q4 [Lean.Grind.CommRing α] (b x Z : α) : b * (Z * Z) - x * (Z * Z) = (b - x) * (Z * Z) := by grind
theorem kj_q5 [Lean.Grind.CommRing α] (d Z r : α) : r * r * (d * (Z * Z)) = d * (Z * r * (Z * r)) := by grind
theorem kj_q6 [Lean.Grind.CommRing α] (s Z b x : α) : s * Z * (s * Z) - (b - x) * (Z * Z) - x * (Z * Z) - x * (Z * Z) = (s * s - x - b) * (Z * Z) := by grind
theorem kj_q7 [Lean.Grind.CommRing α] (y Z r : α) : r * r * r * (y * (Z * Z * Z)) = y * (Z * r * (Z * r) * (Z * r)) := by grind
theorem kj_add [Lean.Grind.CommRing α] (X Y Z x y bx by1 s t u run rise Z1 sq cu sh X1 Y1 : α) (hX : X = x * (Z * Z)) (hY : Y = y * (Z * Z * Z)) (hs : (bx - x) * s = by1 - y)
    (ht : t = s * s - x - bx) (hu : u = s * (x - t) - y) (hrun : run = bx * (Z * Z) - X) (hrise : rise = by1 * (Z * Z * Z) - Y) (hZ1 : Z1 = Z * run) (hsq : sq = run * run) (hcu : cu = sq * run) (hsh : sh = X * sq)
    (hX1 : X1 = rise * rise - cu - sh - sh) (hY1 : Y1 = rise * (sh - X1) - cu * Y) : X1 = t * (Z1 * Z1) ∧ Y1 = u * (Z1 * Z1 * Z1) := by
  have h1 : rise = s * Z1 := by rw [hrise, hY, kj_q1, ← hs, kj_q2, ← hX, ← hrun, ← hZ1]
  have h2 : sh = x * (Z1 * Z1) := by rw [hsh, hX, hsq, kj_q3, ← hZ1]
  have h0 : run = (bx - x) * (Z * Z) := by rw [hrun, hX, kj_q4]
  have h3 : cu = (bx - x) * (Z1 * Z1) := by
    have e : cu = run * run * ((bx - x) * (Z * Z)) := by rw [hcu, hsq, ← h0]
    rw [e, kj_q5, ← hZ1]
  have h4 : X1 = t * (Z1 * Z1) := by rw [hX1, h1, h3, h2, kj_q6, ← ht]
  have h5 : cu * Y = y * (Z1 * Z1 * Z1) := by rw [hcu, hsq, hY, kj_q7, ← hZ1]
  exact ⟨h4, by rw [hY1, h5, h1, h2, h4, kj_r7, ← hu]⟩
theorem kj_e1 [Lean.Grind.CommRing α] (x Z w : α) : x * (Z * Z) * (w * w) = x * (Z * w * (Z * w)) := by grind
theorem kj_e2 [Lean.Grind.CommRing α] (x Z w : α) : x * (Z * Z * Z) * (w * w * w) = x * (Z * w * (Z * w) * (Z * w)) := by grind
theorem kj_e3 [Lean.Grind.CommRing α] (x : α) : x * (1 * 1) = x := by grind
theorem kj_e4 [Lean.Grind.CommRing α] (x : α) : x * (1 * 1 * 1) = x := by grind
theorem kj_end [Lean.Grind.CommRing α] (X Y Z x y w : α) (hX : X = x * (Z * Z)) (hY : Y = y * (Z * Z * Z)) (hw : Z * w = 1) : X * (w * w) = x ∧ Y * (w * w * w) = y := by
  constructor
  · rw [hX, kj_e1, hw, kj_e3]
  · rw [hY, kj_e2, hw, kj_e4]
end KJ
/-- a number as an element of the field -/
def kj_f (n : Nat) : Fin kP := ⟨n % kP, Nat.mod_lt _ (by decide +kernel)⟩
theorem kj_f_eq {a b : Nat} : kj_f a = kj_f b ↔ a % kP = b % kP := by
  unfold kj_f
  exact ⟨fun h => Fin.mk.inj h, fun h => Fin.ext h⟩
theorem kj_f_mod (a : Nat) : kj_f (a % kP) = kj_f a := kj_f_eq.mpr (Nat.mod_mod _ _)
theorem kj_f_add (a b : Nat) : kj_f (a + b) = kj_f a + kj_f b := by
  apply Fin.ext
  show (a + b) % kP = (a % kP + b % kP) % kP
  exact Nat.add_mod _ _ _
theorem kj_f_mul (a b : Nat) : kj_f (a * b) = kj_f a * kj_f b := by
  apply Fin.ext
  show (a * b) % kP = (a % kP * (b % kP)) % kP
  exact Nat.mul_mod _ _ _
theorem kj_f_dif (a b : Nat) : kj_f (kp_dif kP a b) = kj_f a - kj_f b := by
  apply Fin.ext
  show ((a + (kP - b % kP)) % kP) % kP = (kP - b % kP + a % kP) % kP
  rw [Nat.mod_mod, Nat.add_comm, Nat.add_mod, Nat.add_mod (kP - b % kP) (a % kP), Nat.mod_mod]
end
section
/-! Plain sums of points modulo FIELD, and what stands for them in the class (own rows). -/
def kc_line (t1 t2 x y bx : Nat) : Nat × Nat :=
  (kp_dif kP (kp_dif kP (t1 * kf_inv kP t2 % kP * (t1 * kf_inv kP t2 % kP) % kP) x) bx,
   kp_dif kP (kp_dif kP x (kp_dif kP (kp_dif kP (t1 * kf_inv kP t2 % kP * (t1 * kf_inv kP t2 % kP) % kP) x) bx) * (t1 * kf_inv kP t2 % kP) % kP) y)
def kc_twice : Option (Nat × Nat) → Option (Nat × Nat)
  | none => none
  | some q => if q.2 = 0 then none else some (kc_line ((q.1 * q.1 % kP + (q.1 * q.1 % kP + q.1 * q.1 % kP) % kP) % kP) ((q.2 + q.2) % kP) q.1 q.2 q.1)
def kc_join (o : Option (Nat × Nat)) (bx by1 : Nat) : Option (Nat × Nat) := match o with
  | none => some (bx, by1)
  | some q => if q.1 = bx then (if q.2 = by1 then kc_twice (some q) else none) else some (kc_line (kp_dif kP by1 q.2) (kp_dif kP bx q.1) q.1 q.2 bx)
theorem kc_twice_some (q : Nat × Nat) : kc_twice (some q) = if q.2 = 0 then none else some (kc_line ((q.1 * q.1 % kP + (q.1 * q.1 % kP + q.1 * q.1 % kP) % kP) % kP) ((q.2 + q.2) % kP) q.1 q.2 q.1) := rfl
theorem kc_join_some (q : Nat × Nat) (bx by1 : Nat) : kc_join (some q) bx by1 = if q.1 = bx then (if q.2 = by1 then kc_twice (some q) else none) else some (kc_line (kp_dif kP by1 q.2) (kp_dif kP bx q.1) q.1 q.2 bx) := rfl
/-- below FIELD -/
def kc_low (o : Option (Nat × Nat)) : Prop := ∀ q, o = some q → q.1 < kP ∧ q.2 < kP
/-- X, Y, Z stand for the point o -/
def kc_rep (o : Option (Nat × Nat)) (X Y Z : Nat) : Prop := Z < kP ∧ match o with
  | none => Z = 0
  | some q => q.1 < kP ∧ q.2 < kP ∧ Z ≠ 0 ∧ kj_f X = kj_f q.1 * (kj_f Z * kj_f Z) ∧ kj_f Y = kj_f q.2 * (kj_f Z * kj_f Z * kj_f Z)
theorem kP_pos : 0 < kP := by decide +kernel
theorem kc_line_lt (t1 t2 x y bx : Nat) : (kc_line t1 t2 x y bx).1 < kP ∧ (kc_line t1 t2 x y bx).2 < kP := ⟨kp_dif_lt kP_pos, kp_dif_lt kP_pos⟩
theorem kc_twice_low {o : Option (Nat × Nat)} : kc_low (kc_twice o) := by
  intro q hq
  cases o with
  | none => exact absurd hq (by simp [kc_twice])
  | some r =>
    rw [kc_twice_some] at hq
    by_cases h : r.2 = 0
    · rw [if_pos h] at hq
      cases hq
    · rw [if_neg h] at hq
      cases hq
      exact kc_line_lt _ _ _ _ _
theorem kc_join_low {o : Option (Nat × Nat)} {bx by1 : Nat} (hx : bx < kP) (hy : by1 < kP) : kc_low (kc_join o bx by1) := by
  intro q hq
  cases o with
  | none =>
    cases hq
    exact ⟨hx, hy⟩
  | some r =>
    rw [kc_join_some] at hq
    by_cases h : r.1 = bx
    · rw [if_pos h] at hq
      by_cases h2 : r.2 = by1
      · rw [if_pos h2] at hq
        exact kc_twice_low q hq
      · rw [if_neg h2] at hq
        cases hq
    · rw [if_neg h] at hq
      cases hq
      exact kc_line_lt _ _ _ _ _
theorem kc_f0 {a : Nat} (h : a < kP) : kj_f a = kj_f 0 ↔ a = 0 := by
  rw [kj_f_eq, Nat.zero_mod, Nat.mod_eq_of_lt h]
theorem kc_fe {a b : Nat} (ha : a < kP) (hb : b < kP) : kj_f a = kj_f b ↔ a = b := by
  rw [kj_f_eq, Nat.mod_eq_of_lt ha, Nat.mod_eq_of_lt hb]
theorem kc_inv {a : Nat} (ha : a < kP) (h0 : a ≠ 0) : kj_f a * kj_f (kf_inv kP a) = kj_f 1 := by
  rw [← kj_f_mul, kj_f_eq, kf_inv_mul kP_prime (by rw [Nat.mod_eq_of_lt ha]; exact h0)]
  rw [Nat.mod_eq_of_lt (by decide +kernel)]
theorem kc_slope {t1 t2 : Nat} (h2 : t2 < kP) (h0 : t2 ≠ 0) : kj_f t2 * kj_f (t1 * kf_inv kP t2 % kP) = kj_f t1 := by
  have h := kc_inv h2 h0
  rw [← kj_f_mul, kj_f_eq] at h
  rw [kj_f_mod, ← kj_f_mul, kj_f_eq]
  have e : t2 * (t1 * kf_inv kP t2) = t1 * (t2 * kf_inv kP t2) := by grind
  rw [e, Nat.mul_mod, h, ← Nat.mul_mod, Nat.mul_one]
theorem kc_odd (y : Nat) (hy : y < kP) (h : (y + y) % kP = 0) : y = 0 := by
  have h2 := kP_prime
  rw [← Nat.two_mul] at h
  rcases kf_zero h2 h with q | q
  · exact absurd q (by decide +kernel)
  · rw [Nat.mod_eq_of_lt hy] at q
    exact q
/-- the class's doubling, row by row, keeps the standing -/
theorem kc_rep_twice {o : Option (Nat × Nat)} {X Y Z z1 z2 sq sh s2 s4 run r2 rise x1 x2 x3 s5 y1 q2 q4 q8 y2 : Nat} (h : kc_rep o X Y Z) (hZ : Z ≠ 0)
    (e1 : z1 = Y * Z % kP) (e2 : z2 = (z1 + z1) % kP) (e3 : sq = Y * Y % kP) (e4 : sh = X * sq % kP) (e5 : s2 = (sh + sh) % kP) (e6 : s4 = (s2 + s2) % kP) (e7 : run = X * X % kP) (e8 : r2 = (run + run) % kP) (e9 : rise = (r2 + run) % kP)
    (e10 : x1 = rise * rise % kP) (e11 : x2 = kp_dif kP x1 s4) (e12 : x3 = kp_dif kP x2 s4) (e13 : s5 = kp_dif kP s4 x3) (e14 : y1 = rise * s5 % kP) (e15 : q2 = (sq + sq) % kP) (e16 : q4 = q2 * q2 % kP) (e17 : q8 = (q4 + q4) % kP) (e18 : y2 = kp_dif kP y1 q8) :
    kc_rep (kc_twice o) x3 y2 z2 := by
  obtain ⟨hZl, h⟩ := h
  have hz2 : z2 < kP := by rw [e2]; exact Nat.mod_lt _ kP_pos
  cases o with
  | none => exact absurd h hZ
  | some q =>
    obtain ⟨hq1, hq2, -, hX, hY⟩ := h
    have f1 : kj_f z2 = kj_f Y * kj_f Z + kj_f Y * kj_f Z := by rw [e2, e1, kj_f_mod, kj_f_add, kj_f_mod, kj_f_mul]
    by_cases hy : q.2 = 0
    · have e : kc_twice (some q) = none := by
        rw [kc_twice_some, if_pos hy]
      rw [e]
      refine ⟨hz2, ?_⟩
      show z2 = 0
      have hY0 : Y % kP = 0 := by
        rw [hy] at hY
        rw [← kj_f_mul, ← kj_f_mul, ← kj_f_mul, Nat.zero_mul, kj_f_eq, Nat.zero_mod] at hY
        exact hY
      have hz1 : z1 = 0 := by rw [e1, Nat.mul_mod, hY0, Nat.zero_mul, Nat.zero_mod]
      rw [e2, hz1]
      rfl
    · have hne : z2 ≠ 0 := by
        intro hz
        rw [e2] at hz
        have h1 := kc_odd z1 (by rw [e1]; exact Nat.mod_lt _ kP_pos) hz
        rw [e1] at h1
        rcases kf_zero kP_prime h1 with h2 | h2
        · rw [← Nat.zero_mod kP, ← kj_f_eq, hY, ← kj_f_mul, ← kj_f_mul, ← kj_f_mul, kj_f_eq, Nat.zero_mod] at h2
          rcases kf_zero kP_prime h2 with h3 | h3
          · rw [Nat.mod_eq_of_lt hq2] at h3
            exact hy h3
          · rcases kf_zero kP_prime h3 with h4 | h4
            · rcases kf_zero kP_prime h4 with h5 | h5
              · rw [Nat.mod_eq_of_lt hZl] at h5
                exact hZ h5
              · rw [Nat.mod_eq_of_lt hZl] at h5
                exact hZ h5
            · rw [Nat.mod_eq_of_lt hZl] at h4
              exact hZ h4
        · rw [Nat.mod_eq_of_lt hZl] at h2
          exact hZ h2
      have ht2 : (q.2 + q.2) % kP ≠ 0 := fun h0 => hy (kc_odd q.2 hq2 h0)
      have hsl := kc_slope (t1 := (q.1 * q.1 % kP + (q.1 * q.1 % kP + q.1 * q.1 % kP) % kP) % kP) (Nat.mod_lt (q.2 + q.2) kP_pos) ht2
      have e : kc_twice (some q) = some (kc_line ((q.1 * q.1 % kP + (q.1 * q.1 % kP + q.1 * q.1 % kP) % kP) % kP) ((q.2 + q.2) % kP) q.1 q.2 q.1) := by
        rw [kc_twice_some, if_neg hy]
      rw [e]
      generalize hS : ((q.1 * q.1 % kP + (q.1 * q.1 % kP + q.1 * q.1 % kP) % kP) % kP) * kf_inv kP ((q.2 + q.2) % kP) % kP = S at hsl
      have hlt := kc_line_lt ((q.1 * q.1 % kP + (q.1 * q.1 % kP + q.1 * q.1 % kP) % kP) % kP) ((q.2 + q.2) % kP) q.1 q.2 q.1
      have hl1 : (kc_line ((q.1 * q.1 % kP + (q.1 * q.1 % kP + q.1 * q.1 % kP) % kP) % kP) ((q.2 + q.2) % kP) q.1 q.2 q.1).1 = kp_dif kP (kp_dif kP (S * S % kP) q.1) q.1 := by rw [← hS]; rfl
      have hl2 : (kc_line ((q.1 * q.1 % kP + (q.1 * q.1 % kP + q.1 * q.1 % kP) % kP) % kP) ((q.2 + q.2) % kP) q.1 q.2 q.1).2 = kp_dif kP (kp_dif kP q.1 (kp_dif kP (kp_dif kP (S * S % kP) q.1) q.1) * S % kP) q.2 := by rw [← hS]; rfl
      refine ⟨hz2, hlt.1, hlt.2, hne, ?_⟩
      rw [hl1, hl2]
      simp only [kj_f_mod, kj_f_add, kj_f_mul, kj_f_dif] at hsl f1 ⊢
      have g3 : kj_f sq = kj_f Y * kj_f Y := by rw [e3, kj_f_mod, kj_f_mul]
      have g6 : kj_f s4 = kj_f X * kj_f sq + kj_f X * kj_f sq + (kj_f X * kj_f sq + kj_f X * kj_f sq) := by rw [e6, e5, e4, kj_f_mod, kj_f_add, kj_f_mod, kj_f_add, kj_f_mod, kj_f_mul]
      have g9 : kj_f rise = kj_f X * kj_f X + kj_f X * kj_f X + kj_f X * kj_f X := by rw [e9, e8, e7, kj_f_mod, kj_f_add, kj_f_mod, kj_f_add, kj_f_mod, kj_f_mul]
      have g12 : kj_f x3 = kj_f rise * kj_f rise - kj_f s4 - kj_f s4 := by rw [e12, e11, e10, kj_f_dif, kj_f_dif, kj_f_mod, kj_f_mul]
      have g18 : kj_f y2 = kj_f rise * (kj_f s4 - kj_f x3) - ((kj_f sq + kj_f sq) * (kj_f sq + kj_f sq) + (kj_f sq + kj_f sq) * (kj_f sq + kj_f sq)) := by
        rw [e18, e17, e16, e15, e14, e13, kj_f_dif, kj_f_mod, kj_f_mul, kj_f_dif, kj_f_mod, kj_f_add, kj_f_mod, kj_f_mul, kj_f_mod, kj_f_add]
      haveI : NeZero kP := ⟨by decide +kernel⟩
      exact kj_dbl (kj_f X) (kj_f Y) (kj_f Z) (kj_f q.1) (kj_f q.2) (kj_f S) _ _ (kj_f z2) (kj_f sq) (kj_f s4) (kj_f rise) (kj_f x3) (kj_f y2) hX hY hsl rfl (by grind) f1 g3 g6 g9 g12 g18
theorem kc_unit {Z a : Nat} (hZl : Z < kP) (hZ : Z ≠ 0) (ha : a < kP) (n : Nat) (h : kj_f a * kj_f (Z ^ n) = kj_f 0) : a = 0 := by
  rw [← kj_f_mul, kj_f_eq, Nat.zero_mod] at h
  rcases kf_zero kP_prime h with h1 | h1
  · rw [Nat.mod_eq_of_lt ha] at h1
    exact h1
  · have h2 := pm_pow kP_prime n (Nat.dvd_of_mod_eq_zero h1)
    have h3 := Nat.mod_eq_zero_of_dvd h2
    rw [Nat.mod_eq_of_lt hZl] at h3
    exact absurd h3 hZ
/-- the line from the running sum to the point -/
theorem kc_measure {q : Nat × Nat} {X Y Z bx by1 sq r1 run s2 i1 rise : Nat} (h : kc_rep (some q) X Y Z) (hbx : bx < kP) (hby : by1 < kP)
    (e1 : sq = Z * Z % kP) (e2 : r1 = bx * sq % kP) (e3 : run = kp_dif kP r1 X) (e4 : s2 = sq * Z % kP) (e5 : i1 = by1 * s2 % kP) (e6 : rise = kp_dif kP i1 Y) :
    (kj_f run = kj_f bx * (kj_f Z * kj_f Z) - kj_f X ∧ kj_f rise = kj_f by1 * (kj_f Z * kj_f Z * kj_f Z) - kj_f Y) ∧ (run = 0 ↔ q.1 = bx) ∧ (rise = 0 ↔ q.2 = by1) := by
  obtain ⟨hZl, hq1, hq2, hZ, hX, hY⟩ := h
  have g1 : kj_f run = kj_f bx * (kj_f Z * kj_f Z) - kj_f X := by rw [e3, e2, e1, kj_f_dif, kj_f_mod, kj_f_mul, kj_f_mod, kj_f_mul]
  have g2 : kj_f rise = kj_f by1 * (kj_f Z * kj_f Z * kj_f Z) - kj_f Y := by rw [e6, e5, e4, e1, kj_f_dif, kj_f_mod, kj_f_mul, kj_f_mod, kj_f_mul, kj_f_mod, kj_f_mul]
  have hr : run < kP := by rw [e3]; exact kp_dif_lt kP_pos
  have hi : rise < kP := by rw [e6]; exact kp_dif_lt kP_pos
  haveI : NeZero kP := ⟨by decide +kernel⟩
  refine ⟨⟨g1, g2⟩, ⟨fun h0 => ?_, fun h0 => ?_⟩, ⟨fun h0 => ?_, fun h0 => ?_⟩⟩
  · have k1 : kj_f (kp_dif kP bx q.1) * kj_f (Z ^ 2) = kj_f 0 := by
      rw [← h0, g1, hX, kj_f_dif, show Z ^ 2 = Z * Z by grind, kj_f_mul]
      grind
    have k2 := kc_unit hZl hZ (kp_dif_lt kP_pos) 2 k1
    rw [← kc_f0 (kp_dif_lt kP_pos), kj_f_dif] at k2
    have k3 : kj_f q.1 = kj_f bx := by
      have k4 : kj_f (0 : Nat) = 0 := rfl
      rw [k4] at k2
      grind
    exact (kc_fe hq1 hbx).mp k3
  · rw [← kc_f0 hr, g1, hX, h0]
    have k4 : kj_f (0 : Nat) = 0 := rfl
    rw [k4]
    grind
  · have k1 : kj_f (kp_dif kP by1 q.2) * kj_f (Z ^ 3) = kj_f 0 := by
      rw [← h0, g2, hY, kj_f_dif, show Z ^ 3 = Z * Z * Z by grind, kj_f_mul, kj_f_mul]
      grind
    have k2 := kc_unit hZl hZ (kp_dif_lt kP_pos) 3 k1
    rw [← kc_f0 (kp_dif_lt kP_pos), kj_f_dif] at k2
    have k3 : kj_f q.2 = kj_f by1 := by
      have k4 : kj_f (0 : Nat) = 0 := rfl
      rw [k4] at k2
      grind
    exact (kc_fe hq2 hby).mp k3
  · rw [← kc_f0 hi, g2, hY, h0]
    have k4 : kj_f (0 : Nat) = 0 := rfl
    rw [k4]
    grind
theorem kc_rep_follow {q : Nat × Nat} {X Y Z bx by1 run rise z1 sq cu sh x1 x2 x3 x4 s2 c2 y1 y2 : Nat} (h : kc_rep (some q) X Y Z) (hbx : bx < kP) (hby : by1 < kP)
    (g1 : kj_f run = kj_f bx * (kj_f Z * kj_f Z) - kj_f X) (g2 : kj_f rise = kj_f by1 * (kj_f Z * kj_f Z * kj_f Z) - kj_f Y) (hrl : run < kP) (hr0 : run ≠ 0) (hne : q.1 ≠ bx)
    (e1 : z1 = Z * run % kP) (e2 : sq = run * run % kP) (e3 : cu = sq * run % kP) (e4 : sh = X * sq % kP) (e5 : x1 = rise * rise % kP) (e6 : x2 = kp_dif kP x1 cu) (e7 : x3 = kp_dif kP x2 sh) (e8 : x4 = kp_dif kP x3 sh)
    (e9 : s2 = kp_dif kP sh x4) (e10 : c2 = cu * Y % kP) (e11 : y1 = rise * s2 % kP) (e12 : y2 = kp_dif kP y1 c2) : kc_rep (kc_join (some q) bx by1) x4 y2 z1 := by
  obtain ⟨hZl, hq1, hq2, hZ, hX, hY⟩ := h
  have hz1 : z1 < kP := by rw [e1]; exact Nat.mod_lt _ kP_pos
  have hz0 : z1 ≠ 0 := by
    intro h0
    rw [e1] at h0
    rcases kf_zero kP_prime h0 with h1 | h1
    · rw [Nat.mod_eq_of_lt hZl] at h1
      exact hZ h1
    · rw [Nat.mod_eq_of_lt hrl] at h1
      exact hr0 h1
  have e : kc_join (some q) bx by1 = some (kc_line (kp_dif kP by1 q.2) (kp_dif kP bx q.1) q.1 q.2 bx) := by
    rw [kc_join_some, if_neg hne]
  rw [e]
  haveI : NeZero kP := ⟨by decide +kernel⟩
  have ht2 : kp_dif kP bx q.1 ≠ 0 := by
    intro h0
    rw [← kc_f0 (kp_dif_lt kP_pos), kj_f_dif] at h0
    have k4 : kj_f (0 : Nat) = 0 := rfl
    rw [k4] at h0
    have k3 : kj_f q.1 = kj_f bx := by grind
    exact hne ((kc_fe hq1 hbx).mp k3)
  have hsl := kc_slope (t1 := kp_dif kP by1 q.2) (kp_dif_lt kP_pos) ht2
  generalize hS : kp_dif kP by1 q.2 * kf_inv kP (kp_dif kP bx q.1) % kP = S at hsl
  have hlt := kc_line_lt (kp_dif kP by1 q.2) (kp_dif kP bx q.1) q.1 q.2 bx
  have hl1 : (kc_line (kp_dif kP by1 q.2) (kp_dif kP bx q.1) q.1 q.2 bx).1 = kp_dif kP (kp_dif kP (S * S % kP) q.1) bx := by rw [← hS]; rfl
  have hl2 : (kc_line (kp_dif kP by1 q.2) (kp_dif kP bx q.1) q.1 q.2 bx).2 = kp_dif kP (kp_dif kP q.1 (kp_dif kP (kp_dif kP (S * S % kP) q.1) bx) * S % kP) q.2 := by rw [← hS]; rfl
  refine ⟨hz1, hlt.1, hlt.2, hz0, ?_⟩
  rw [hl1, hl2]
  simp only [kj_f_mod, kj_f_add, kj_f_mul, kj_f_dif] at hsl ⊢
  have f1 : kj_f z1 = kj_f Z * kj_f run := by rw [e1, kj_f_mod, kj_f_mul]
  have f2 : kj_f sq = kj_f run * kj_f run := by rw [e2, kj_f_mod, kj_f_mul]
  have f3 : kj_f cu = kj_f sq * kj_f run := by rw [e3, kj_f_mod, kj_f_mul]
  have f4 : kj_f sh = kj_f X * kj_f sq := by rw [e4, kj_f_mod, kj_f_mul]
  have f8 : kj_f x4 = kj_f rise * kj_f rise - kj_f cu - kj_f sh - kj_f sh := by rw [e8, e7, e6, e5, kj_f_dif, kj_f_dif, kj_f_dif, kj_f_mod, kj_f_mul]
  have f12 : kj_f y2 = kj_f rise * (kj_f sh - kj_f x4) - kj_f cu * kj_f Y := by rw [e12, e11, e10, e9, kj_f_dif, kj_f_mod, kj_f_mul, kj_f_dif, kj_f_mod, kj_f_mul]
  exact kj_add (kj_f X) (kj_f Y) (kj_f Z) (kj_f q.1) (kj_f q.2) (kj_f bx) (kj_f by1) (kj_f S) _ _ (kj_f run) (kj_f rise) (kj_f z1) (kj_f sq) (kj_f cu) (kj_f sh) (kj_f x4) (kj_f y2) hX hY hsl rfl (by grind) g1 g2 f1 f2 f3 f4 f8 f12
theorem kc_rep_end {q : Nat × Nat} {X Y Z w w2 w3 x y : Nat} (h : kc_rep (some q) X Y Z) (e1 : w = kf_inv kP Z) (e2 : w2 = w * w % kP) (e3 : w3 = w2 * w % kP) (e4 : x = X * w2 % kP) (e5 : y = Y * w3 % kP) : x = q.1 ∧ y = q.2 := by
  obtain ⟨hZl, hq1, hq2, hZ, hX, hY⟩ := h
  have hx : x < kP := by rw [e4]; exact Nat.mod_lt _ kP_pos
  have hy : y < kP := by rw [e5]; exact Nat.mod_lt _ kP_pos
  have hw := kc_inv hZl hZ
  haveI : NeZero kP := ⟨by decide +kernel⟩
  have k1 : kj_f (1 : Nat) = 1 := rfl
  rw [← e1, k1] at hw
  have h2 := kj_end (kj_f X) (kj_f Y) (kj_f Z) (kj_f q.1) (kj_f q.2) (kj_f w) hX hY hw
  constructor
  · apply (kc_fe hx hq1).mp
    rw [e4, e2, kj_f_mod, kj_f_mul, kj_f_mod, kj_f_mul]
    exact h2.1
  · apply (kc_fe hy hq2).mp
    rw [e5, e3, e2, kj_f_mod, kj_f_mul, kj_f_mod, kj_f_mul, kj_f_mod, kj_f_mul]
    exact h2.2
end
section
/-- a private method of a class that the tables say can be made, by its rows of tables_1 -/
def lw_okq (q : MethodName × Nat) : Prop := (q.1.cls ≠ "java/lang/invoke/MethodHandle" ∧ q.1.cls ≠ "java/lang/invoke/VarHandle") ∧ Cond.instantiable q.1.cls q.2 ∈ tables_1 ∧ Cond.privateMethod q.1 ∈ tables_1 ∧ Cond.instanceMethod q.1 ∈ tables_1
theorem lw_p0 : lw_okq (⟨"KeyCurve", "register", "(I)[J"⟩, 5) := ⟨⟨by decide +kernel, by decide +kernel⟩, List.mem_of_getElem? (i := 10) (by decide +kernel), List.mem_of_getElem? (i := 157) (by decide +kernel), List.mem_of_getElem? (i := 158) (by decide +kernel)⟩
theorem lw_p1 : lw_okq (⟨"KeyCurve", "prime", "(Z)LKeyCurve$Prime;"⟩, 5) := ⟨⟨by decide +kernel, by decide +kernel⟩, List.mem_of_getElem? (i := 10) (by decide +kernel), List.mem_of_getElem? (i := 170) (by decide +kernel), List.mem_of_getElem? (i := 171) (by decide +kernel)⟩
theorem lw_p2 : lw_okq (⟨"KeyCurve$Prime", "addRow", "(J[JII)V"⟩, 9) := ⟨⟨by decide +kernel, by decide +kernel⟩, List.mem_of_getElem? (i := 44) (by decide +kernel), List.mem_of_getElem? (i := 208) (by decide +kernel), List.mem_of_getElem? (i := 209) (by decide +kernel)⟩
theorem lw_p3 : lw_okq (⟨"KeyCurve$Prime", "takeHigh", "()Z"⟩, 9) := ⟨⟨by decide +kernel, by decide +kernel⟩, List.mem_of_getElem? (i := 44) (by decide +kernel), List.mem_of_getElem? (i := 213) (by decide +kernel), List.mem_of_getElem? (i := 214) (by decide +kernel)⟩
theorem lw_p4 : lw_okq (⟨"KeyCurve$Prime", "fold", "()V"⟩, 9) := ⟨⟨by decide +kernel, by decide +kernel⟩, List.mem_of_getElem? (i := 44) (by decide +kernel), List.mem_of_getElem? (i := 217) (by decide +kernel), List.mem_of_getElem? (i := 218) (by decide +kernel)⟩
theorem lw_p5 : lw_okq (⟨"KeyCurve", "spot", "(I)LKeyCurve$Spot;"⟩, 5) := ⟨⟨by decide +kernel, by decide +kernel⟩, List.mem_of_getElem? (i := 10) (by decide +kernel), List.mem_of_getElem? (i := 274) (by decide +kernel), List.mem_of_getElem? (i := 275) (by decide +kernel)⟩
theorem lw_p6 : lw_okq (⟨"KeyCurve$Curve", "putSquareOfY", "([J[J)V"⟩, 12) := ⟨⟨by decide +kernel, by decide +kernel⟩, List.mem_of_getElem? (i := 94) (by decide +kernel), List.mem_of_getElem? (i := 300) (by decide +kernel), List.mem_of_getElem? (i := 301) (by decide +kernel)⟩
theorem lw_p7 : lw_okq (⟨"KeyCurve$Curve", "measureLine", "(LKeyCurve$Spot;)V"⟩, 12) := ⟨⟨by decide +kernel, by decide +kernel⟩, List.mem_of_getElem? (i := 94) (by decide +kernel), List.mem_of_getElem? (i := 331) (by decide +kernel), List.mem_of_getElem? (i := 332) (by decide +kernel)⟩
theorem lw_p8 : lw_okq (⟨"KeyCurve$Curve", "followLine", "()V"⟩, 12) := ⟨⟨by decide +kernel, by decide +kernel⟩, List.mem_of_getElem? (i := 94) (by decide +kernel), List.mem_of_getElem? (i := 335) (by decide +kernel), List.mem_of_getElem? (i := 336) (by decide +kernel)⟩
theorem lw_p9 : lw_okq (⟨"KeyCurve$Curve", "twice", "()V"⟩, 12) := ⟨⟨by decide +kernel, by decide +kernel⟩, List.mem_of_getElem? (i := 94) (by decide +kernel), List.mem_of_getElem? (i := 339) (by decide +kernel), List.mem_of_getElem? (i := 340) (by decide +kernel)⟩
theorem lw_p10 : lw_okq (⟨"KeyCurveModel", "below", "([IIZ)V"⟩, 20) := ⟨⟨by decide +kernel, by decide +kernel⟩, List.mem_of_getElem? (i := 369) (by decide +kernel), List.mem_of_getElem? (i := 456) (by decide +kernel), List.mem_of_getElem? (i := 457) (by decide +kernel)⟩
theorem lw_p11 : lw_okq (⟨"KeyCurveModel", "timesN", "([I[I[I)V"⟩, 20) := ⟨⟨by decide +kernel, by decide +kernel⟩, List.mem_of_getElem? (i := 369) (by decide +kernel), List.mem_of_getElem? (i := 489) (by decide +kernel), List.mem_of_getElem? (i := 490) (by decide +kernel)⟩
theorem lw_p12 : lw_okq (⟨"KeyCurveModel", "multiply", "([I[I)V"⟩, 20) := ⟨⟨by decide +kernel, by decide +kernel⟩, List.mem_of_getElem? (i := 369) (by decide +kernel), List.mem_of_getElem? (i := 493) (by decide +kernel), List.mem_of_getElem? (i := 494) (by decide +kernel)⟩
theorem lw_p13 : lw_okq (⟨"KeyCurveModel", "times", "([I[I[I)V"⟩, 20) := ⟨⟨by decide +kernel, by decide +kernel⟩, List.mem_of_getElem? (i := 369) (by decide +kernel), List.mem_of_getElem? (i := 497) (by decide +kernel), List.mem_of_getElem? (i := 498) (by decide +kernel)⟩
theorem lw_p14 : lw_okq (⟨"KeyCurveModel", "inverse", "([I[I[I)V"⟩, 20) := ⟨⟨by decide +kernel, by decide +kernel⟩, List.mem_of_getElem? (i := 369) (by decide +kernel), List.mem_of_getElem? (i := 509) (by decide +kernel), List.mem_of_getElem? (i := 510) (by decide +kernel)⟩
theorem lw_p15 : lw_okq (⟨"KeyCurveModel", "isRoot", "([I[I)Z"⟩, 20) := ⟨⟨by decide +kernel, by decide +kernel⟩, List.mem_of_getElem? (i := 369) (by decide +kernel), List.mem_of_getElem? (i := 523) (by decide +kernel), List.mem_of_getElem? (i := 524) (by decide +kernel)⟩
def lw_privs_1 : List (MethodName × Nat) := [(⟨"KeyCurve", "register", "(I)[J"⟩, 5), (⟨"KeyCurve", "prime", "(Z)LKeyCurve$Prime;"⟩, 5), (⟨"KeyCurve$Prime", "addRow", "(J[JII)V"⟩, 9), (⟨"KeyCurve$Prime", "takeHigh", "()Z"⟩, 9), (⟨"KeyCurve$Prime", "fold", "()V"⟩, 9), (⟨"KeyCurve", "spot", "(I)LKeyCurve$Spot;"⟩, 5), (⟨"KeyCurve$Curve", "putSquareOfY", "([J[J)V"⟩, 12), (⟨"KeyCurve$Curve", "measureLine", "(LKeyCurve$Spot;)V"⟩, 12), (⟨"KeyCurve$Curve", "followLine", "()V"⟩, 12), (⟨"KeyCurve$Curve", "twice", "()V"⟩, 12), (⟨"KeyCurveModel", "below", "([IIZ)V"⟩, 20), (⟨"KeyCurveModel", "timesN", "([I[I[I)V"⟩, 20), (⟨"KeyCurveModel", "multiply", "([I[I)V"⟩, 20), (⟨"KeyCurveModel", "times", "([I[I[I)V"⟩, 20), (⟨"KeyCurveModel", "inverse", "([I[I[I)V"⟩, 20), (⟨"KeyCurveModel", "isRoot", "([I[I)Z"⟩, 20)]
theorem lw_r1 : ∀ q ∈ lw_privs_1, lw_okq q := List.forall_mem_cons.mpr ⟨lw_p0, List.forall_mem_cons.mpr ⟨lw_p1, List.forall_mem_cons.mpr ⟨lw_p2, List.forall_mem_cons.mpr ⟨lw_p3, List.forall_mem_cons.mpr ⟨lw_p4, List.forall_mem_cons.mpr ⟨lw_p5, List.forall_mem_cons.mpr ⟨lw_p6, List.forall_mem_cons.mpr ⟨lw_p7, List.forall_mem_cons.mpr ⟨lw_p8, List.forall_mem_cons.mpr ⟨lw_p9, List.forall_mem_cons.mpr ⟨lw_p10, List.forall_mem_cons.mpr ⟨lw_p11, List.forall_mem_cons.mpr ⟨lw_p12, List.forall_mem_cons.mpr ⟨lw_p13, List.forall_mem_cons.mpr ⟨lw_p14, List.forall_mem_cons.mpr ⟨lw_p15, fun _ h => absurd h List.not_mem_nil⟩⟩⟩⟩⟩⟩⟩⟩⟩⟩⟩⟩⟩⟩⟩⟩
theorem lw_p16 : lw_okq (⟨"KeyCurveModel", "keep", "(I[I[I)V"⟩, 20) := ⟨⟨by decide +kernel, by decide +kernel⟩, List.mem_of_getElem? (i := 369) (by decide +kernel), List.mem_of_getElem? (i := 541) (by decide +kernel), List.mem_of_getElem? (i := 542) (by decide +kernel)⟩
theorem lw_p17 : lw_okq (⟨"KeyCurveModel", "square", "([I)V"⟩, 20) := ⟨⟨by decide +kernel, by decide +kernel⟩, List.mem_of_getElem? (i := 369) (by decide +kernel), List.mem_of_getElem? (i := 553) (by decide +kernel), List.mem_of_getElem? (i := 554) (by decide +kernel)⟩
theorem lw_p18 : lw_okq (⟨"KeyCurveModel", "load", "(I)V"⟩, 20) := ⟨⟨by decide +kernel, by decide +kernel⟩, List.mem_of_getElem? (i := 369) (by decide +kernel), List.mem_of_getElem? (i := 568) (by decide +kernel), List.mem_of_getElem? (i := 569) (by decide +kernel)⟩
theorem lw_p19 : lw_okq (⟨"KeyCurveModel", "more", "([I[I)V"⟩, 20) := ⟨⟨by decide +kernel, by decide +kernel⟩, List.mem_of_getElem? (i := 369) (by decide +kernel), List.mem_of_getElem? (i := 572) (by decide +kernel), List.mem_of_getElem? (i := 573) (by decide +kernel)⟩
theorem lw_p20 : lw_okq (⟨"KeyCurveModel", "join", "([I[IZ)V"⟩, 20) := ⟨⟨by decide +kernel, by decide +kernel⟩, List.mem_of_getElem? (i := 369) (by decide +kernel), List.mem_of_getElem? (i := 576) (by decide +kernel), List.mem_of_getElem? (i := 577) (by decide +kernel)⟩
theorem lw_p21 : lw_okq (⟨"KeyCurveModel", "store", "(I)V"⟩, 20) := ⟨⟨by decide +kernel, by decide +kernel⟩, List.mem_of_getElem? (i := 369) (by decide +kernel), List.mem_of_getElem? (i := 583) (by decide +kernel), List.mem_of_getElem? (i := 584) (by decide +kernel)⟩
def lw_privs_2 : List (MethodName × Nat) := [(⟨"KeyCurveModel", "keep", "(I[I[I)V"⟩, 20), (⟨"KeyCurveModel", "square", "([I)V"⟩, 20), (⟨"KeyCurveModel", "load", "(I)V"⟩, 20), (⟨"KeyCurveModel", "more", "([I[I)V"⟩, 20), (⟨"KeyCurveModel", "join", "([I[IZ)V"⟩, 20), (⟨"KeyCurveModel", "store", "(I)V"⟩, 20)]
theorem lw_r2 : ∀ q ∈ lw_privs_2, lw_okq q := List.forall_mem_cons.mpr ⟨lw_p16, List.forall_mem_cons.mpr ⟨lw_p17, List.forall_mem_cons.mpr ⟨lw_p18, List.forall_mem_cons.mpr ⟨lw_p19, List.forall_mem_cons.mpr ⟨lw_p20, List.forall_mem_cons.mpr ⟨lw_p21, fun _ h => absurd h List.not_mem_nil⟩⟩⟩⟩⟩⟩
def lw_privs : List (MethodName × Nat) := lw_privs_1 ++ (lw_privs_2)
def lw_tbl : List Cond := k2_sels lw_privs ++ tables_1
theorem lw_privs_ok : ∀ q ∈ lw_privs, lw_okq q := by
  show ∀ q ∈ lw_privs_1 ++ (lw_privs_2), lw_okq q
  exact List.forall_mem_append.mpr ⟨lw_r1, lw_r2⟩
/-! Own rows: the good words of the tables, one list for every method. -/
def kt_all : List Cond := lw_tbl.filter goodWord
theorem kt_mem {i : Nat} {w : Cond} (h : lw_tbl[i]? = some w) (hg : goodWord w = true) : w ∈ kt_all := List.mem_filter.mpr ⟨List.mem_of_getElem? h, hg⟩
theorem kt_good : ∀ w ∈ kt_all, (w.onTables && w.keeps) = true ∨ ∃ ty, w = .arrayClass ty := fun w h => good_of_word (List.mem_filter.mp h).2
theorem kt_in {y z : Cond} (hz : z ∈ kt_all) : GoodIn (y :: kt_all) (z :: kt_all) := fun w hw => by
  rcases List.mem_cons.mp hw with e | h
  · subst e
    exact ⟨List.mem_cons_of_mem _ hz, kt_good _ hz⟩
  · exact ⟨List.mem_cons_of_mem _ h, kt_good _ h⟩
theorem kt_inS {y z : Cond} {own : String} {idx : Nat} {mn : MethodName} (hz : z ∈ kt_all) (h1 : Cond.methodLink own idx mn ∈ kt_all) (h2 : Cond.static mn ∈ kt_all) (h3 : Cond.initialized mn.cls ∈ kt_all) : GoodIn (y :: kt_all) (va_wsS own idx mn (z :: kt_all)) := fun w hw => by
  rcases List.mem_append.mp hw with h | h
  · have hk : w ∈ kt_all := by
      rcases List.mem_cons.mp h with e | h
      · subst e; exact h1
      · rcases List.mem_cons.mp h with e | h
        · subst e; exact h2
        · rcases List.mem_cons.mp h with e | h
          · subst e; exact h3
          · cases h
    exact ⟨List.mem_cons_of_mem _ hk, kt_good _ hk⟩
  · exact kt_in hz w h
theorem kt_inV {y z : Cond} {own C : String} {idx : Nat} {mn : MethodName} (hz : z ∈ kt_all) (h1 : Cond.methodLink own idx mn ∈ kt_all) (h2 : Cond.instanceMethod mn ∈ kt_all) (h3 : Cond.selects C mn mn ∈ kt_all) (h4 : Cond.initialized C ∈ kt_all) : GoodIn (y :: kt_all) (wsV own idx C mn (z :: kt_all)) := fun w hw => by
  rcases List.mem_append.mp hw with h | h
  · have hk : w ∈ kt_all := by
      rcases List.mem_cons.mp h with e | h
      · subst e; exact h1
      · rcases List.mem_cons.mp h with e | h
        · subst e; exact h2
        · rcases List.mem_cons.mp h with e | h
          · subst e; exact h3
          · rcases List.mem_cons.mp h with e | h
            · subst e; exact h4
            · cases h
    exact ⟨List.mem_cons_of_mem _ hk, kt_good _ hk⟩
  · exact kt_in hz w h
abbrev R_Wo : String := "KeyCurve$Words"
abbrev R_Pr : String := "KeyCurve$Prime"
abbrev R_Sp : String := "KeyCurve$Spot"
abbrev R_Cu : String := "KeyCurve$Curve"
abbrev R_Ke : String := "KeyCurve"
abbrev R_Mo : String := "KeyCurveModel"
abbrev R_In : String := "java/lang/Integer"
abbrev R_Ob : String := "java/lang/Object"
abbrev R_Sy : String := "java/lang/System"
abbrev b_Ke_init : ByteArray := prog_1_method_1_code
abbrev y_Ke_init : MethodName := ⟨"KeyCurve", "<init>", "()V"⟩
def w_Ke_init : List Cond := .code y_Ke_init b_Ke_init 2 none :: kt_all
abbrev b_Ke_add : ByteArray := prog_1_method_4_code
abbrev y_Ke_add : MethodName := ⟨"KeyCurve", "add", "(IIIZ)V"⟩
def w_Ke_add : List Cond := .code y_Ke_add b_Ke_add 5 none :: kt_all
abbrev b_Ke_base : ByteArray := prog_1_method_9_code
abbrev y_Ke_base : MethodName := ⟨"KeyCurve", "base", "(I)V"⟩
def w_Ke_base : List Cond := .code y_Ke_base b_Ke_base 2 none :: kt_all
abbrev b_Ke_get : ByteArray := prog_1_method_3_code
abbrev y_Ke_get : MethodName := ⟨"KeyCurve", "get", "(II)I"⟩
def w_Ke_get : List Cond := .code y_Ke_get b_Ke_get 3 (some .int) :: kt_all
abbrev b_Ke_invert : ByteArray := prog_1_method_7_code
abbrev y_Ke_invert : MethodName := ⟨"KeyCurve", "invert", "(IIZ)Z"⟩
def w_Ke_invert : List Cond := .code y_Ke_invert b_Ke_invert 4 (some .boolean) :: kt_all
abbrev b_Ke_lift : ByteArray := prog_1_method_12_code
abbrev y_Ke_lift : MethodName := ⟨"KeyCurve", "lift", "(IIZ)Z"⟩
def w_Ke_lift : List Cond := .code y_Ke_lift b_Ke_lift 4 (some .boolean) :: kt_all
abbrev b_Ke_multiply : ByteArray := prog_1_method_6_code
abbrev y_Ke_multiply : MethodName := ⟨"KeyCurve", "multiply", "(IIIZ)V"⟩
def w_Ke_multiply : List Cond := .code y_Ke_multiply b_Ke_multiply 5 none :: kt_all
abbrev b_Ke_none : ByteArray := prog_1_method_10_code
abbrev y_Ke_none : MethodName := ⟨"KeyCurve", "none", "(I)V"⟩
def w_Ke_none : List Cond := .code y_Ke_none b_Ke_none 2 none :: kt_all
abbrev b_Ke_plus : ByteArray := prog_1_method_13_code
abbrev y_Ke_plus : MethodName := ⟨"KeyCurve", "plus", "(III)V"⟩
def w_Ke_plus : List Cond := .code y_Ke_plus b_Ke_plus 4 none :: kt_all
abbrev b_Ke_point : ByteArray := prog_1_method_11_code
abbrev y_Ke_point : MethodName := ⟨"KeyCurve", "point", "(III)Z"⟩
def w_Ke_point : List Cond := .code y_Ke_point b_Ke_point 4 (some .boolean) :: kt_all
abbrev b_Ke_prime : ByteArray := prog_1_method_19_code
abbrev y_Ke_prime : MethodName := ⟨"KeyCurve", "prime", "(Z)LKeyCurve$Prime;"⟩
def w_Ke_prime : List Cond := .code y_Ke_prime b_Ke_prime 2 (some (.object "KeyCurve$Prime")) :: kt_all
abbrev b_Ke_register : ByteArray := prog_1_method_17_code
abbrev y_Ke_register : MethodName := ⟨"KeyCurve", "register", "(I)[J"⟩
def w_Ke_register : List Cond := .code y_Ke_register b_Ke_register 2 (some (.array .long)) :: kt_all
abbrev b_Ke_root : ByteArray := prog_1_method_8_code
abbrev y_Ke_root : MethodName := ⟨"KeyCurve", "root", "(II)Z"⟩
def w_Ke_root : List Cond := .code y_Ke_root b_Ke_root 3 (some .boolean) :: kt_all
abbrev b_Ke_same : ByteArray := prog_1_method_16_code
abbrev y_Ke_same : MethodName := ⟨"KeyCurve", "same", "(II)Z"⟩
def w_Ke_same : List Cond := .code y_Ke_same b_Ke_same 5 (some .boolean) :: kt_all
abbrev b_Ke_set : ByteArray := prog_1_method_2_code
abbrev y_Ke_set : MethodName := ⟨"KeyCurve", "set", "(III)I"⟩
def w_Ke_set : List Cond := .code y_Ke_set b_Ke_set 6 (some .int) :: kt_all
abbrev b_Ke_spot : ByteArray := prog_1_method_18_code
abbrev y_Ke_spot : MethodName := ⟨"KeyCurve", "spot", "(I)LKeyCurve$Spot;"⟩
def w_Ke_spot : List Cond := .code y_Ke_spot b_Ke_spot 2 (some (.object "KeyCurve$Spot")) :: kt_all
abbrev b_Ke_subtract : ByteArray := prog_1_method_5_code
abbrev y_Ke_subtract : MethodName := ⟨"KeyCurve", "subtract", "(IIIZ)V"⟩
def w_Ke_subtract : List Cond := .code y_Ke_subtract b_Ke_subtract 5 none :: kt_all
abbrev b_Ke_take : ByteArray := prog_1_method_15_code
abbrev y_Ke_take : MethodName := ⟨"KeyCurve", "take", "(IIZ)Z"⟩
def w_Ke_take : List Cond := .code y_Ke_take b_Ke_take 5 (some .boolean) :: kt_all
abbrev b_Ke_times : ByteArray := prog_1_method_14_code
abbrev y_Ke_times : MethodName := ⟨"KeyCurve", "times", "(III)V"⟩
def w_Ke_times : List Cond := .code y_Ke_times b_Ke_times 4 none :: kt_all
abbrev b_Cu_init : ByteArray := prog_2_method_1_code
abbrev y_Cu_init : MethodName := ⟨"KeyCurve$Curve", "<init>", "(LKeyCurve$Prime;)V"⟩
def w_Cu_init : List Cond := .code y_Cu_init b_Cu_init 2 none :: kt_all
abbrev b_Cu_evenRoot : ByteArray := prog_2_method_2_code
abbrev y_Cu_evenRoot : MethodName := ⟨"KeyCurve$Curve", "evenRoot", "([J[J)Z"⟩
def w_Cu_evenRoot : List Cond := .code y_Cu_evenRoot b_Cu_evenRoot 3 (some .boolean) :: kt_all
abbrev b_Cu_findByX : ByteArray := prog_2_method_4_code
abbrev y_Cu_findByX : MethodName := ⟨"KeyCurve$Curve", "findByX", "(LKeyCurve$Spot;[JZ)Z"⟩
def w_Cu_findByX : List Cond := .code y_Cu_findByX b_Cu_findByX 4 (some .boolean) :: kt_all
abbrev b_Cu_finish : ByteArray := prog_2_method_12_code
abbrev y_Cu_finish : MethodName := ⟨"KeyCurve$Curve", "finish", "(LKeyCurve$Spot;)V"⟩
def w_Cu_finish : List Cond := .code y_Cu_finish b_Cu_finish 2 none :: kt_all
abbrev b_Cu_followLine : ByteArray := prog_2_method_10_code
abbrev y_Cu_followLine : MethodName := ⟨"KeyCurve$Curve", "followLine", "()V"⟩
def w_Cu_followLine : List Cond := .code y_Cu_followLine b_Cu_followLine 1 none :: kt_all
abbrev b_Cu_holds : ByteArray := prog_2_method_3_code
abbrev y_Cu_holds : MethodName := ⟨"KeyCurve$Curve", "holds", "([J[J)Z"⟩
def w_Cu_holds : List Cond := .code y_Cu_holds b_Cu_holds 3 (some .boolean) :: kt_all
abbrev b_Cu_join : ByteArray := prog_2_method_8_code
abbrev y_Cu_join : MethodName := ⟨"KeyCurve$Curve", "join", "(LKeyCurve$Spot;)V"⟩
def w_Cu_join : List Cond := .code y_Cu_join b_Cu_join 2 none :: kt_all
abbrev b_Cu_measureLine : ByteArray := prog_2_method_9_code
abbrev y_Cu_measureLine : MethodName := ⟨"KeyCurve$Curve", "measureLine", "(LKeyCurve$Spot;)V"⟩
def w_Cu_measureLine : List Cond := .code y_Cu_measureLine b_Cu_measureLine 2 none :: kt_all
abbrev b_Cu_putSquareOfY : ByteArray := prog_2_method_5_code
abbrev y_Cu_putSquareOfY : MethodName := ⟨"KeyCurve$Curve", "putSquareOfY", "([J[J)V"⟩
def w_Cu_putSquareOfY : List Cond := .code y_Cu_putSquareOfY b_Cu_putSquareOfY 3 none :: kt_all
abbrev b_Cu_start : ByteArray := prog_2_method_6_code
abbrev y_Cu_start : MethodName := ⟨"KeyCurve$Curve", "start", "()V"⟩
def w_Cu_start : List Cond := .code y_Cu_start b_Cu_start 2 none :: kt_all
abbrev b_Cu_startMultiple : ByteArray := prog_2_method_7_code
abbrev y_Cu_startMultiple : MethodName := ⟨"KeyCurve$Curve", "startMultiple", "(LKeyCurve$Spot;[J)V"⟩
def w_Cu_startMultiple : List Cond := .code y_Cu_startMultiple b_Cu_startMultiple 4 none :: kt_all
abbrev b_Cu_twice : ByteArray := prog_2_method_11_code
abbrev y_Cu_twice : MethodName := ⟨"KeyCurve$Curve", "twice", "()V"⟩
def w_Cu_twice : List Cond := .code y_Cu_twice b_Cu_twice 1 none :: kt_all
abbrev b_Pr_init : ByteArray := prog_3_method_1_code
abbrev y_Pr_init : MethodName := ⟨"KeyCurve$Prime", "<init>", "([J[JI)V"⟩
def w_Pr_init : List Cond := .code y_Pr_init b_Pr_init 4 none :: kt_all
abbrev b_Pr_addRow : ByteArray := prog_3_method_10_code
abbrev y_Pr_addRow : MethodName := ⟨"KeyCurve$Prime", "addRow", "(J[JII)V"⟩
def w_Pr_addRow : List Cond := .code y_Pr_addRow b_Pr_addRow 11 none :: kt_all
abbrev b_Pr_difference : ByteArray := prog_3_method_3_code
abbrev y_Pr_difference : MethodName := ⟨"KeyCurve$Prime", "difference", "([J[J[J)V"⟩
def w_Pr_difference : List Cond := .code y_Pr_difference b_Pr_difference 7 none :: kt_all
abbrev b_Pr_fold : ByteArray := prog_3_method_9_code
abbrev y_Pr_fold : MethodName := ⟨"KeyCurve$Prime", "fold", "()V"⟩
def w_Pr_fold : List Cond := .code y_Pr_fold b_Pr_fold 2 none :: kt_all
abbrev b_Pr_inverse : ByteArray := prog_3_method_6_code
abbrev y_Pr_inverse : MethodName := ⟨"KeyCurve$Prime", "inverse", "([J[J)Z"⟩
def w_Pr_inverse : List Cond := .code y_Pr_inverse b_Pr_inverse 3 (some .boolean) :: kt_all
abbrev b_Pr_power : ByteArray := prog_3_method_5_code
abbrev y_Pr_power : MethodName := ⟨"KeyCurve$Prime", "power", "([J[J[J)V"⟩
def w_Pr_power : List Cond := .code y_Pr_power b_Pr_power 5 none :: kt_all
abbrev b_Pr_product : ByteArray := prog_3_method_4_code
abbrev y_Pr_product : MethodName := ⟨"KeyCurve$Prime", "product", "([J[J[J)V"⟩
def w_Pr_product : List Cond := .code y_Pr_product b_Pr_product 5 none :: kt_all
abbrev b_Pr_sum : ByteArray := prog_3_method_2_code
abbrev y_Pr_sum : MethodName := ⟨"KeyCurve$Prime", "sum", "([J[J[J)V"⟩
def w_Pr_sum : List Cond := .code y_Pr_sum b_Pr_sum 7 none :: kt_all
abbrev b_Pr_takeHigh : ByteArray := prog_3_method_8_code
abbrev y_Pr_takeHigh : MethodName := ⟨"KeyCurve$Prime", "takeHigh", "()Z"⟩
def w_Pr_takeHigh : List Cond := .code y_Pr_takeHigh b_Pr_takeHigh 4 (some .boolean) :: kt_all
abbrev b_Pr_trim : ByteArray := prog_3_method_7_code
abbrev y_Pr_trim : MethodName := ⟨"KeyCurve$Prime", "trim", "([J)V"⟩
def w_Pr_trim : List Cond := .code y_Pr_trim b_Pr_trim 2 none :: kt_all
abbrev b_Sp_init : ByteArray := prog_4_method_1_code
abbrev y_Sp_init : MethodName := ⟨"KeyCurve$Spot", "<init>", "()V"⟩
def w_Sp_init : List Cond := .code y_Sp_init b_Sp_init 1 none :: kt_all
abbrev b_Sp_become : ByteArray := prog_4_method_2_code
abbrev y_Sp_become : MethodName := ⟨"KeyCurve$Spot", "become", "([J[J)V"⟩
def w_Sp_become : List Cond := .code y_Sp_become b_Sp_become 3 none :: kt_all
abbrev b_Wo_areEqual : ByteArray := prog_5_method_4_code
abbrev y_Wo_areEqual : MethodName := ⟨"KeyCurve$Words", "areEqual", "([J[J)Z"⟩
def w_Wo_areEqual : List Cond := .code y_Wo_areEqual b_Wo_areEqual 3 (some .boolean) :: kt_all
abbrev b_Wo_copy : ByteArray := prog_5_method_2_code
abbrev y_Wo_copy : MethodName := ⟨"KeyCurve$Words", "copy", "([J[J)V"⟩
def w_Wo_copy : List Cond := .code y_Wo_copy b_Wo_copy 2 none :: kt_all
abbrev b_Wo_differenceInto : ByteArray := prog_5_method_9_code
abbrev y_Wo_differenceInto : MethodName := ⟨"KeyCurve$Words", "differenceInto", "([J[J[J)J"⟩
def w_Wo_differenceInto : List Cond := .code y_Wo_differenceInto b_Wo_differenceInto 8 (some .long) :: kt_all
abbrev b_Wo_hasBit : ByteArray := prog_5_method_7_code
abbrev y_Wo_hasBit : MethodName := ⟨"KeyCurve$Words", "hasBit", "([JI)Z"⟩
def w_Wo_hasBit : List Cond := .code y_Wo_hasBit b_Wo_hasBit 2 (some .boolean) :: kt_all
abbrev b_Wo_isBelow : ByteArray := prog_5_method_5_code
abbrev y_Wo_isBelow : MethodName := ⟨"KeyCurve$Words", "isBelow", "([J[J)Z"⟩
def w_Wo_isBelow : List Cond := .code y_Wo_isBelow b_Wo_isBelow 3 (some .boolean) :: kt_all
abbrev b_Wo_isOdd : ByteArray := prog_5_method_6_code
abbrev y_Wo_isOdd : MethodName := ⟨"KeyCurve$Words", "isOdd", "([J)Z"⟩
def w_Wo_isOdd : List Cond := .code y_Wo_isOdd b_Wo_isOdd 1 (some .boolean) :: kt_all
abbrev b_Wo_isZero : ByteArray := prog_5_method_3_code
abbrev y_Wo_isZero : MethodName := ⟨"KeyCurve$Words", "isZero", "([J)Z"⟩
def w_Wo_isZero : List Cond := .code y_Wo_isZero b_Wo_isZero 4 (some .boolean) :: kt_all
abbrev b_Wo_sumInto : ByteArray := prog_5_method_8_code
abbrev y_Wo_sumInto : MethodName := ⟨"KeyCurve$Words", "sumInto", "([J[J[J)J"⟩
def w_Wo_sumInto : List Cond := .code y_Wo_sumInto b_Wo_sumInto 8 (some .long) :: kt_all
abbrev b_Mo_init : ByteArray := prog_7_method_1_code
abbrev y_Mo_init : MethodName := ⟨"KeyCurveModel", "<init>", "()V"⟩
def w_Mo_init : List Cond := .code y_Mo_init b_Mo_init 1 none :: kt_all
abbrev b_Mo_add_0 : ByteArray := prog_7_method_22_code
abbrev y_Mo_add_0 : MethodName := ⟨"KeyCurveModel", "add", "(IIIZ)V"⟩
def w_Mo_add_0 : List Cond := .code y_Mo_add_0 b_Mo_add_0 6 none :: kt_all
abbrev b_Mo_add_1 : ByteArray := prog_7_method_5_code
abbrev y_Mo_add_1 : MethodName := ⟨"KeyCurveModel", "add", "([I[I[I)I"⟩
def w_Mo_add_1 : List Cond := .code y_Mo_add_1 b_Mo_add_1 6 (some .int) :: kt_all
abbrev b_Mo_base : ByteArray := prog_7_method_29_code
abbrev y_Mo_base : MethodName := ⟨"KeyCurveModel", "base", "(I)V"⟩
def w_Mo_base : List Cond := .code y_Mo_base b_Mo_base 2 none :: kt_all
abbrev b_Mo_below : ByteArray := prog_7_method_18_code
abbrev y_Mo_below : MethodName := ⟨"KeyCurveModel", "below", "([IIZ)V"⟩
def w_Mo_below : List Cond := .code y_Mo_below b_Mo_below 5 none :: kt_all
abbrev b_Mo_bit : ByteArray := prog_7_method_8_code
abbrev y_Mo_bit : MethodName := ⟨"KeyCurveModel", "bit", "([II)I"⟩
def w_Mo_bit : List Cond := .code y_Mo_bit b_Mo_bit 2 (some .int) :: kt_all
abbrev b_Mo_compare : ByteArray := prog_7_method_3_code
abbrev y_Mo_compare : MethodName := ⟨"KeyCurveModel", "compare", "([I[I)I"⟩
def w_Mo_compare : List Cond := .code y_Mo_compare b_Mo_compare 3 (some .int) :: kt_all
abbrev b_Mo_copy : ByteArray := prog_7_method_7_code
abbrev y_Mo_copy : MethodName := ⟨"KeyCurveModel", "copy", "([I[I)V"⟩
def w_Mo_copy : List Cond := .code y_Mo_copy b_Mo_copy 2 none :: kt_all
abbrev b_Mo_get : ByteArray := prog_7_method_21_code
abbrev y_Mo_get : MethodName := ⟨"KeyCurveModel", "get", "(II)I"⟩
def w_Mo_get : List Cond := .code y_Mo_get b_Mo_get 3 (some .int) :: kt_all
abbrev b_Mo_half : ByteArray := prog_7_method_13_code
abbrev y_Mo_half : MethodName := ⟨"KeyCurveModel", "half", "([II)V"⟩
def w_Mo_half : List Cond := .code y_Mo_half b_Mo_half 3 none :: kt_all
abbrev b_Mo_inverse : ByteArray := prog_7_method_15_code
abbrev y_Mo_inverse : MethodName := ⟨"KeyCurveModel", "inverse", "([I[I[I)V"⟩
def w_Mo_inverse : List Cond := .code y_Mo_inverse b_Mo_inverse 5 none :: kt_all
abbrev b_Mo_invert : ByteArray := prog_7_method_25_code
abbrev y_Mo_invert : MethodName := ⟨"KeyCurveModel", "invert", "(IIZ)Z"⟩
def w_Mo_invert : List Cond := .code y_Mo_invert b_Mo_invert 4 (some .boolean) :: kt_all
abbrev b_Mo_isEven : ByteArray := prog_7_method_19_code
abbrev y_Mo_isEven : MethodName := ⟨"KeyCurveModel", "isEven", "([I)Z"⟩
def w_Mo_isEven : List Cond := .code y_Mo_isEven b_Mo_isEven 1 (some .boolean) :: kt_all
abbrev b_Mo_isOne : ByteArray := prog_7_method_14_code
abbrev y_Mo_isOne : MethodName := ⟨"KeyCurveModel", "isOne", "([I)Z"⟩
def w_Mo_isOne : List Cond := .code y_Mo_isOne b_Mo_isOne 2 (some .boolean) :: kt_all
abbrev b_Mo_isRoot : ByteArray := prog_7_method_26_code
abbrev y_Mo_isRoot : MethodName := ⟨"KeyCurveModel", "isRoot", "([I[I)Z"⟩
def w_Mo_isRoot : List Cond := .code y_Mo_isRoot b_Mo_isRoot 4 (some .boolean) :: kt_all
abbrev b_Mo_isZero : ByteArray := prog_7_method_4_code
abbrev y_Mo_isZero : MethodName := ⟨"KeyCurveModel", "isZero", "([I)Z"⟩
def w_Mo_isZero : List Cond := .code y_Mo_isZero b_Mo_isZero 2 (some .boolean) :: kt_all
abbrev b_Mo_join : ByteArray := prog_7_method_17_code
abbrev y_Mo_join : MethodName := ⟨"KeyCurveModel", "join", "([I[IZ)V"⟩
def w_Mo_join : List Cond := .code y_Mo_join b_Mo_join 5 none :: kt_all
abbrev b_Mo_keep : ByteArray := prog_7_method_28_code
abbrev y_Mo_keep : MethodName := ⟨"KeyCurveModel", "keep", "(I[I[I)V"⟩
def w_Mo_keep : List Cond := .code y_Mo_keep b_Mo_keep 4 none :: kt_all
abbrev b_Mo_lift : ByteArray := prog_7_method_33_code
abbrev y_Mo_lift : MethodName := ⟨"KeyCurveModel", "lift", "(IIZ)Z"⟩
def w_Mo_lift : List Cond := .code y_Mo_lift b_Mo_lift 5 (some .boolean) :: kt_all
abbrev b_Mo_load : ByteArray := prog_7_method_34_code
abbrev y_Mo_load : MethodName := ⟨"KeyCurveModel", "load", "(I)V"⟩
def w_Mo_load : List Cond := .code y_Mo_load b_Mo_load 2 none :: kt_all
abbrev b_Mo_minus : ByteArray := prog_7_method_11_code
abbrev y_Mo_minus : MethodName := ⟨"KeyCurveModel", "minus", "([I[I[I)V"⟩
def w_Mo_minus : List Cond := .code y_Mo_minus b_Mo_minus 3 none :: kt_all
abbrev b_Mo_more : ByteArray := prog_7_method_37_code
abbrev y_Mo_more : MethodName := ⟨"KeyCurveModel", "more", "([I[I)V"⟩
def w_Mo_more : List Cond := .code y_Mo_more b_Mo_more 3 none :: kt_all
abbrev b_Mo_multiply_0 : ByteArray := prog_7_method_24_code
abbrev y_Mo_multiply_0 : MethodName := ⟨"KeyCurveModel", "multiply", "(IIIZ)V"⟩
def w_Mo_multiply_0 : List Cond := .code y_Mo_multiply_0 b_Mo_multiply_0 5 none :: kt_all
abbrev b_Mo_multiply_1 : ByteArray := prog_7_method_9_code
abbrev y_Mo_multiply_1 : MethodName := ⟨"KeyCurveModel", "multiply", "([I[I)V"⟩
def w_Mo_multiply_1 : List Cond := .code y_Mo_multiply_1 b_Mo_multiply_1 7 none :: kt_all
abbrev b_Mo_none : ByteArray := prog_7_method_30_code
abbrev y_Mo_none : MethodName := ⟨"KeyCurveModel", "none", "(I)V"⟩
def w_Mo_none : List Cond := .code y_Mo_none b_Mo_none 2 none :: kt_all
abbrev b_Mo_plus_0 : ByteArray := prog_7_method_36_code
abbrev y_Mo_plus_0 : MethodName := ⟨"KeyCurveModel", "plus", "(III)V"⟩
def w_Mo_plus_0 : List Cond := .code y_Mo_plus_0 b_Mo_plus_0 4 none :: kt_all
abbrev b_Mo_plus_1 : ByteArray := prog_7_method_12_code
abbrev y_Mo_plus_1 : MethodName := ⟨"KeyCurveModel", "plus", "([I[I[I)V"⟩
def w_Mo_plus_1 : List Cond := .code y_Mo_plus_1 b_Mo_plus_1 3 none :: kt_all
abbrev b_Mo_point : ByteArray := prog_7_method_32_code
abbrev y_Mo_point : MethodName := ⟨"KeyCurveModel", "point", "(III)Z"⟩
def w_Mo_point : List Cond := .code y_Mo_point b_Mo_point 6 (some .boolean) :: kt_all
abbrev b_Mo_root : ByteArray := prog_7_method_27_code
abbrev y_Mo_root : MethodName := ⟨"KeyCurveModel", "root", "(II)Z"⟩
def w_Mo_root : List Cond := .code y_Mo_root b_Mo_root 3 (some .boolean) :: kt_all
abbrev b_Mo_same : ByteArray := prog_7_method_40_code
abbrev y_Mo_same : MethodName := ⟨"KeyCurveModel", "same", "(II)Z"⟩
def w_Mo_same : List Cond := .code y_Mo_same b_Mo_same 3 (some .boolean) :: kt_all
abbrev b_Mo_set : ByteArray := prog_7_method_20_code
abbrev y_Mo_set : MethodName := ⟨"KeyCurveModel", "set", "(III)I"⟩
def w_Mo_set : List Cond := .code y_Mo_set b_Mo_set 5 (some .int) :: kt_all
abbrev b_Mo_square : ByteArray := prog_7_method_31_code
abbrev y_Mo_square : MethodName := ⟨"KeyCurveModel", "square", "([I)V"⟩
def w_Mo_square : List Cond := .code y_Mo_square b_Mo_square 3 none :: kt_all
abbrev b_Mo_store : ByteArray := prog_7_method_35_code
abbrev y_Mo_store : MethodName := ⟨"KeyCurveModel", "store", "(I)V"⟩
def w_Mo_store : List Cond := .code y_Mo_store b_Mo_store 2 none :: kt_all
abbrev b_Mo_sub : ByteArray := prog_7_method_6_code
abbrev y_Mo_sub : MethodName := ⟨"KeyCurveModel", "sub", "([I[I[I)I"⟩
def w_Mo_sub : List Cond := .code y_Mo_sub b_Mo_sub 6 (some .int) :: kt_all
abbrev b_Mo_subtract : ByteArray := prog_7_method_23_code
abbrev y_Mo_subtract : MethodName := ⟨"KeyCurveModel", "subtract", "(IIIZ)V"⟩
def w_Mo_subtract : List Cond := .code y_Mo_subtract b_Mo_subtract 5 none :: kt_all
abbrev b_Mo_take : ByteArray := prog_7_method_39_code
abbrev y_Mo_take : MethodName := ⟨"KeyCurveModel", "take", "(IIZ)Z"⟩
def w_Mo_take : List Cond := .code y_Mo_take b_Mo_take 4 (some .boolean) :: kt_all
abbrev b_Mo_times_0 : ByteArray := prog_7_method_38_code
abbrev y_Mo_times_0 : MethodName := ⟨"KeyCurveModel", "times", "(III)V"⟩
def w_Mo_times_0 : List Cond := .code y_Mo_times_0 b_Mo_times_0 5 none :: kt_all
abbrev b_Mo_times_1 : ByteArray := prog_7_method_10_code
abbrev y_Mo_times_1 : MethodName := ⟨"KeyCurveModel", "times", "([I[I[I)V"⟩
def w_Mo_times_1 : List Cond := .code y_Mo_times_1 b_Mo_times_1 9 none :: kt_all
abbrev b_Mo_timesN : ByteArray := prog_7_method_16_code
abbrev y_Mo_timesN : MethodName := ⟨"KeyCurveModel", "timesN", "([I[I[I)V"⟩
def w_Mo_timesN : List Cond := .code y_Mo_timesN b_Mo_timesN 6 none :: kt_all
abbrev b_In_compare : ByteArray := prog_9_method_40_code
abbrev y_In_compare : MethodName := ⟨"java/lang/Integer", "compare", "(II)I"⟩
def w_In_compare : List Cond := .code y_In_compare b_In_compare 2 (some .int) :: kt_all
abbrev b_In_compareUnsigned : ByteArray := prog_9_method_41_code
abbrev y_In_compareUnsigned : MethodName := ⟨"java/lang/Integer", "compareUnsigned", "(II)I"⟩
def w_In_compareUnsigned : List Cond := .code y_In_compareUnsigned b_In_compareUnsigned 2 (some .int) :: kt_all
abbrev b_Ob_init : ByteArray := object_method_1_code
abbrev y_Ob_init : MethodName := ⟨"java/lang/Object", "<init>", "()V"⟩
def w_Ob_init : List Cond := .code y_Ob_init b_Ob_init 1 none :: kt_all
theorem kt_s0 : Cond.selects "KeyCurve" ⟨"KeyCurve", "register", "(I)[J"⟩ ⟨"KeyCurve", "register", "(I)[J"⟩ ∈ kt_all := kt_mem (i := 0) (by decide +kernel) (by decide +kernel)
theorem kt_s1 : Cond.selects "KeyCurve" ⟨"KeyCurve", "prime", "(Z)LKeyCurve$Prime;"⟩ ⟨"KeyCurve", "prime", "(Z)LKeyCurve$Prime;"⟩ ∈ kt_all := kt_mem (i := 1) (by decide +kernel) (by decide +kernel)
theorem kt_s2 : Cond.selects "KeyCurve$Prime" ⟨"KeyCurve$Prime", "addRow", "(J[JII)V"⟩ ⟨"KeyCurve$Prime", "addRow", "(J[JII)V"⟩ ∈ kt_all := kt_mem (i := 2) (by decide +kernel) (by decide +kernel)
theorem kt_s3 : Cond.selects "KeyCurve$Prime" ⟨"KeyCurve$Prime", "takeHigh", "()Z"⟩ ⟨"KeyCurve$Prime", "takeHigh", "()Z"⟩ ∈ kt_all := kt_mem (i := 3) (by decide +kernel) (by decide +kernel)
theorem kt_s4 : Cond.selects "KeyCurve$Prime" ⟨"KeyCurve$Prime", "fold", "()V"⟩ ⟨"KeyCurve$Prime", "fold", "()V"⟩ ∈ kt_all := kt_mem (i := 4) (by decide +kernel) (by decide +kernel)
theorem kt_s5 : Cond.selects "KeyCurve" ⟨"KeyCurve", "spot", "(I)LKeyCurve$Spot;"⟩ ⟨"KeyCurve", "spot", "(I)LKeyCurve$Spot;"⟩ ∈ kt_all := kt_mem (i := 5) (by decide +kernel) (by decide +kernel)
theorem kt_s6 : Cond.selects "KeyCurve$Curve" ⟨"KeyCurve$Curve", "putSquareOfY", "([J[J)V"⟩ ⟨"KeyCurve$Curve", "putSquareOfY", "([J[J)V"⟩ ∈ kt_all := kt_mem (i := 6) (by decide +kernel) (by decide +kernel)
theorem kt_s7 : Cond.selects "KeyCurve$Curve" ⟨"KeyCurve$Curve", "measureLine", "(LKeyCurve$Spot;)V"⟩ ⟨"KeyCurve$Curve", "measureLine", "(LKeyCurve$Spot;)V"⟩ ∈ kt_all := kt_mem (i := 7) (by decide +kernel) (by decide +kernel)
theorem kt_s8 : Cond.selects "KeyCurve$Curve" ⟨"KeyCurve$Curve", "followLine", "()V"⟩ ⟨"KeyCurve$Curve", "followLine", "()V"⟩ ∈ kt_all := kt_mem (i := 8) (by decide +kernel) (by decide +kernel)
theorem kt_s9 : Cond.selects "KeyCurve$Curve" ⟨"KeyCurve$Curve", "twice", "()V"⟩ ⟨"KeyCurve$Curve", "twice", "()V"⟩ ∈ kt_all := kt_mem (i := 9) (by decide +kernel) (by decide +kernel)
theorem kt_s10 : Cond.selects "KeyCurveModel" ⟨"KeyCurveModel", "below", "([IIZ)V"⟩ ⟨"KeyCurveModel", "below", "([IIZ)V"⟩ ∈ kt_all := kt_mem (i := 10) (by decide +kernel) (by decide +kernel)
theorem kt_s11 : Cond.selects "KeyCurveModel" ⟨"KeyCurveModel", "timesN", "([I[I[I)V"⟩ ⟨"KeyCurveModel", "timesN", "([I[I[I)V"⟩ ∈ kt_all := kt_mem (i := 11) (by decide +kernel) (by decide +kernel)
theorem kt_s12 : Cond.selects "KeyCurveModel" ⟨"KeyCurveModel", "multiply", "([I[I)V"⟩ ⟨"KeyCurveModel", "multiply", "([I[I)V"⟩ ∈ kt_all := kt_mem (i := 12) (by decide +kernel) (by decide +kernel)
theorem kt_s13 : Cond.selects "KeyCurveModel" ⟨"KeyCurveModel", "times", "([I[I[I)V"⟩ ⟨"KeyCurveModel", "times", "([I[I[I)V"⟩ ∈ kt_all := kt_mem (i := 13) (by decide +kernel) (by decide +kernel)
theorem kt_s14 : Cond.selects "KeyCurveModel" ⟨"KeyCurveModel", "inverse", "([I[I[I)V"⟩ ⟨"KeyCurveModel", "inverse", "([I[I[I)V"⟩ ∈ kt_all := kt_mem (i := 14) (by decide +kernel) (by decide +kernel)
theorem kt_s15 : Cond.selects "KeyCurveModel" ⟨"KeyCurveModel", "isRoot", "([I[I)Z"⟩ ⟨"KeyCurveModel", "isRoot", "([I[I)Z"⟩ ∈ kt_all := kt_mem (i := 15) (by decide +kernel) (by decide +kernel)
theorem kt_s16 : Cond.selects "KeyCurveModel" ⟨"KeyCurveModel", "keep", "(I[I[I)V"⟩ ⟨"KeyCurveModel", "keep", "(I[I[I)V"⟩ ∈ kt_all := kt_mem (i := 16) (by decide +kernel) (by decide +kernel)
theorem kt_s17 : Cond.selects "KeyCurveModel" ⟨"KeyCurveModel", "square", "([I)V"⟩ ⟨"KeyCurveModel", "square", "([I)V"⟩ ∈ kt_all := kt_mem (i := 17) (by decide +kernel) (by decide +kernel)
theorem kt_s18 : Cond.selects "KeyCurveModel" ⟨"KeyCurveModel", "load", "(I)V"⟩ ⟨"KeyCurveModel", "load", "(I)V"⟩ ∈ kt_all := kt_mem (i := 18) (by decide +kernel) (by decide +kernel)
theorem kt_s19 : Cond.selects "KeyCurveModel" ⟨"KeyCurveModel", "more", "([I[I)V"⟩ ⟨"KeyCurveModel", "more", "([I[I)V"⟩ ∈ kt_all := kt_mem (i := 19) (by decide +kernel) (by decide +kernel)
theorem kt_s20 : Cond.selects "KeyCurveModel" ⟨"KeyCurveModel", "join", "([I[IZ)V"⟩ ⟨"KeyCurveModel", "join", "([I[IZ)V"⟩ ∈ kt_all := kt_mem (i := 20) (by decide +kernel) (by decide +kernel)
theorem kt_s21 : Cond.selects "KeyCurveModel" ⟨"KeyCurveModel", "store", "(I)V"⟩ ⟨"KeyCurveModel", "store", "(I)V"⟩ ∈ kt_all := kt_mem (i := 21) (by decide +kernel) (by decide +kernel)
theorem kt_w0 : (Jvm.Cond.initialized "KeyCurveLaw") ∈ kt_all := kt_mem (i := 22) (by decide +kernel) (by decide +kernel)
theorem kt_w1 : (Jvm.Cond.initialized "KeyCurve") ∈ kt_all := kt_mem (i := 23) (by decide +kernel) (by decide +kernel)
theorem kt_w2 : (Jvm.Cond.initialized "KeyCurve$Spot") ∈ kt_all := kt_mem (i := 24) (by decide +kernel) (by decide +kernel)
theorem kt_w3 : (Jvm.Cond.initialized "KeyCurve$Prime") ∈ kt_all := kt_mem (i := 25) (by decide +kernel) (by decide +kernel)
theorem kt_w4 : (Jvm.Cond.initialized "KeyCurve$Curve") ∈ kt_all := kt_mem (i := 26) (by decide +kernel) (by decide +kernel)
theorem kt_w5 : (Jvm.Cond.initialized "KeyCurveModel") ∈ kt_all := kt_mem (i := 27) (by decide +kernel) (by decide +kernel)
theorem kt_w6 : (Jvm.Cond.initialized "KeyCurve$Words") ∈ kt_all := kt_mem (i := 28) (by decide +kernel) (by decide +kernel)
theorem kt_w7 : (Jvm.Cond.initialized "java/lang/System") ∈ kt_all := kt_mem (i := 29) (by decide +kernel) (by decide +kernel)
theorem kt_w8 : (Jvm.Cond.initialized "java/lang/Integer") ∈ kt_all := kt_mem (i := 30) (by decide +kernel) (by decide +kernel)
theorem kt_w9 : (Jvm.Cond.classLink "KeyCurveLaw" (7 : Nat) "KeyCurve") ∈ kt_all := kt_mem (i := 31) (by decide +kernel) (by decide +kernel)
theorem kt_w10 : (Jvm.Cond.instantiable "KeyCurve" (5 : Nat)) ∈ kt_all := kt_mem (i := 32) (by decide +kernel) (by decide +kernel)
theorem kt_w11 : (Jvm.Cond.methodLink "KeyCurveLaw" (9 : Nat) ({ cls := "KeyCurve", name := "<init>", desc := "()V" } : Jvm.MethodName)) ∈ kt_all := kt_mem (i := 33) (by decide +kernel) (by decide +kernel)
theorem kt_w12 : (Jvm.Cond.instanceMethod ({ cls := "KeyCurve", name := "<init>", desc := "()V" } : Jvm.MethodName)) ∈ kt_all := kt_mem (i := 34) (by decide +kernel) (by decide +kernel)
theorem kt_w13 : (Jvm.Cond.code ({ cls := "KeyCurve", name := "<init>", desc := "()V" } : Jvm.MethodName) prog_1_method_1_code (2 : Nat) (Option.none : Option Jvm.ClassFile.FieldType)) ∈ kt_all := kt_mem (i := 35) (by decide +kernel) (by decide +kernel)
theorem kt_w14 : (Jvm.Cond.methodLink "KeyCurve" (1 : Nat) ({ cls := "java/lang/Object", name := "<init>", desc := "()V" } : Jvm.MethodName)) ∈ kt_all := kt_mem (i := 36) (by decide +kernel) (by decide +kernel)
theorem kt_w15 : (Jvm.Cond.instanceMethod ({ cls := "java/lang/Object", name := "<init>", desc := "()V" } : Jvm.MethodName)) ∈ kt_all := kt_mem (i := 37) (by decide +kernel) (by decide +kernel)
theorem kt_w16 : (Jvm.Cond.code ({ cls := "java/lang/Object", name := "<init>", desc := "()V" } : Jvm.MethodName) object_method_1_code (1 : Nat) (Option.none : Option Jvm.ClassFile.FieldType)) ∈ kt_all := kt_mem (i := 38) (by decide +kernel) (by decide +kernel)
theorem kt_w17 : (Jvm.Cond.classLink "KeyCurve" (9 : Nat) "[[J") ∈ kt_all := kt_mem (i := 39) (by decide +kernel) (by decide +kernel)
theorem kt_w19 : (Jvm.Cond.classLink "KeyCurve" (14 : Nat) "KeyCurve$Spot") ∈ kt_all := kt_mem (i := 41) (by decide +kernel) (by decide +kernel)
theorem kt_w21 : (Jvm.Cond.instantiable "KeyCurve$Spot" (3 : Nat)) ∈ kt_all := kt_mem (i := 43) (by decide +kernel) (by decide +kernel)
theorem kt_w23 : (Jvm.Cond.instanceMethod ({ cls := "KeyCurve$Spot", name := "<init>", desc := "()V" } : Jvm.MethodName)) ∈ kt_all := kt_mem (i := 45) (by decide +kernel) (by decide +kernel)
theorem kt_w24 : (Jvm.Cond.code ({ cls := "KeyCurve$Spot", name := "<init>", desc := "()V" } : Jvm.MethodName) prog_4_method_1_code (1 : Nat) (Option.none : Option Jvm.ClassFile.FieldType)) ∈ kt_all := kt_mem (i := 46) (by decide +kernel) (by decide +kernel)
theorem kt_w25 : (Jvm.Cond.methodLink "KeyCurve$Spot" (3 : Nat) ({ cls := "java/lang/Object", name := "<init>", desc := "()V" } : Jvm.MethodName)) ∈ kt_all := kt_mem (i := 47) (by decide +kernel) (by decide +kernel)
theorem kt_w26 : (Jvm.Cond.fieldLink "KeyCurve$Spot" (9 : Nat) "KeyCurve$Spot" "x" "[J") ∈ kt_all := kt_mem (i := 48) (by decide +kernel) (by decide +kernel)
theorem kt_w27 : (Jvm.Cond.fieldLink "KeyCurve$Curve" (129 : Nat) "KeyCurve$Spot" "x" "[J") ∈ kt_all := kt_mem (i := 49) (by decide +kernel) (by decide +kernel)
theorem kt_w28 : (Jvm.Cond.fieldLink "KeyCurve" (124 : Nat) "KeyCurve$Spot" "x" "[J") ∈ kt_all := kt_mem (i := 50) (by decide +kernel) (by decide +kernel)
theorem kt_w29 : (Jvm.Cond.fieldLink "KeyCurve$Spot" (15 : Nat) "KeyCurve$Spot" "y" "[J") ∈ kt_all := kt_mem (i := 51) (by decide +kernel) (by decide +kernel)
theorem kt_w30 : (Jvm.Cond.fieldLink "KeyCurve$Curve" (130 : Nat) "KeyCurve$Spot" "y" "[J") ∈ kt_all := kt_mem (i := 52) (by decide +kernel) (by decide +kernel)
theorem kt_w31 : (Jvm.Cond.fieldLink "KeyCurve" (121 : Nat) "KeyCurve$Spot" "y" "[J") ∈ kt_all := kt_mem (i := 53) (by decide +kernel) (by decide +kernel)
theorem kt_w32 : (Jvm.Cond.fieldLink "KeyCurve$Spot" (18 : Nat) "KeyCurve$Spot" "isNone" "Z") ∈ kt_all := kt_mem (i := 54) (by decide +kernel) (by decide +kernel)
theorem kt_w33 : (Jvm.Cond.fieldLink "KeyCurve$Curve" (122 : Nat) "KeyCurve$Spot" "isNone" "Z") ∈ kt_all := kt_mem (i := 55) (by decide +kernel) (by decide +kernel)
theorem kt_w34 : (Jvm.Cond.fieldLink "KeyCurve" (96 : Nat) "KeyCurve$Spot" "isNone" "Z") ∈ kt_all := kt_mem (i := 56) (by decide +kernel) (by decide +kernel)
theorem kt_w35 : (Jvm.Cond.laysFinal "KeyCurve$Spot" "KeyCurve$Spot" "x" "[J") ∈ kt_all := kt_mem (i := 57) (by decide +kernel) (by decide +kernel)
theorem kt_w37 : (Jvm.Cond.laysFinal "KeyCurve$Spot" "KeyCurve$Spot" "y" "[J") ∈ kt_all := kt_mem (i := 59) (by decide +kernel) (by decide +kernel)
theorem kt_w39 : (Jvm.Cond.lays "KeyCurve$Spot" "KeyCurve$Spot" "isNone" "Z") ∈ kt_all := kt_mem (i := 61) (by decide +kernel) (by decide +kernel)
theorem kt_w42 : (Jvm.Cond.arrayClass Jvm.ClassFile.FieldType.long) ∈ kt_all := kt_mem (i := 64) (by decide +kernel) (by decide +kernel)
theorem kt_w43 : (Jvm.Cond.classLink "KeyCurve" (21 : Nat) "KeyCurve$Prime") ∈ kt_all := kt_mem (i := 65) (by decide +kernel) (by decide +kernel)
theorem kt_w44 : (Jvm.Cond.instantiable "KeyCurve$Prime" (9 : Nat)) ∈ kt_all := kt_mem (i := 66) (by decide +kernel) (by decide +kernel)
theorem kt_w45 : (Jvm.Cond.fieldLink "KeyCurve" (23 : Nat) "KeyCurve" "FIELD" "[J") ∈ kt_all := kt_mem (i := 67) (by decide +kernel) (by decide +kernel)
theorem kt_w47 : (Jvm.Cond.fieldLink "KeyCurve" (27 : Nat) "KeyCurve" "FIELD_GAP" "[J") ∈ kt_all := kt_mem (i := 69) (by decide +kernel) (by decide +kernel)
theorem kt_w49 : (Jvm.Cond.methodLink "KeyCurve" (30 : Nat) ({ cls := "KeyCurve$Prime", name := "<init>", desc := "([J[JI)V" } : Jvm.MethodName)) ∈ kt_all := kt_mem (i := 71) (by decide +kernel) (by decide +kernel)
theorem kt_w50 : (Jvm.Cond.instanceMethod ({ cls := "KeyCurve$Prime", name := "<init>", desc := "([J[JI)V" } : Jvm.MethodName)) ∈ kt_all := kt_mem (i := 72) (by decide +kernel) (by decide +kernel)
theorem kt_w51 : (Jvm.Cond.code ({ cls := "KeyCurve$Prime", name := "<init>", desc := "([J[JI)V" } : Jvm.MethodName) prog_3_method_1_code (4 : Nat) (Option.none : Option Jvm.ClassFile.FieldType)) ∈ kt_all := kt_mem (i := 73) (by decide +kernel) (by decide +kernel)
theorem kt_w52 : (Jvm.Cond.methodLink "KeyCurve$Prime" (3 : Nat) ({ cls := "java/lang/Object", name := "<init>", desc := "()V" } : Jvm.MethodName)) ∈ kt_all := kt_mem (i := 74) (by decide +kernel) (by decide +kernel)
theorem kt_w53 : (Jvm.Cond.methodLink "KeyCurve$Prime" (37 : Nat) ({ cls := "[J", name := "clone", desc := "()Ljava/lang/Object;" } : Jvm.MethodName)) ∈ kt_all := kt_mem (i := 75) (by decide +kernel) (by decide +kernel)
theorem kt_w56 : (Jvm.Cond.instanceMethod ({ cls := "java/lang/Object", name := "clone", desc := "()Ljava/lang/Object;" } : Jvm.MethodName)) ∈ kt_all := kt_mem (i := 78) (by decide +kernel) (by decide +kernel)
theorem kt_w57 : (Jvm.Cond.selects "[J" ({ cls := "[J", name := "clone", desc := "()Ljava/lang/Object;" } : Jvm.MethodName) ({ cls := "java/lang/Object", name := "clone", desc := "()Ljava/lang/Object;" } : Jvm.MethodName)) ∈ kt_all := kt_mem (i := 79) (by decide +kernel) (by decide +kernel)
theorem kt_w59 : (Jvm.Cond.classLink "KeyCurve$Prime" (38 : Nat) "[J") ∈ kt_all := kt_mem (i := 81) (by decide +kernel) (by decide +kernel)
theorem kt_w60 : (Jvm.Cond.constantLong "KeyCurve$Prime" (45 : Nat) (2 : Int64)) ∈ kt_all := kt_mem (i := 82) (by decide +kernel) (by decide +kernel)
theorem kt_w61 : (Jvm.Cond.fieldLink "KeyCurve$Prime" (27 : Nat) "KeyCurve$Prime" "prime" "[J") ∈ kt_all := kt_mem (i := 83) (by decide +kernel) (by decide +kernel)
theorem kt_w62 : (Jvm.Cond.fieldLink "KeyCurve$Prime" (30 : Nat) "KeyCurve$Prime" "gap" "[J") ∈ kt_all := kt_mem (i := 84) (by decide +kernel) (by decide +kernel)
theorem kt_w63 : (Jvm.Cond.fieldLink "KeyCurve$Prime" (33 : Nat) "KeyCurve$Prime" "gapWords" "I") ∈ kt_all := kt_mem (i := 85) (by decide +kernel) (by decide +kernel)
theorem kt_w64 : (Jvm.Cond.fieldLink "KeyCurve$Prime" (42 : Nat) "KeyCurve$Prime" "inversePower" "[J") ∈ kt_all := kt_mem (i := 86) (by decide +kernel) (by decide +kernel)
theorem kt_w65 : (Jvm.Cond.fieldLink "KeyCurve$Prime" (9 : Nat) "KeyCurve$Prime" "wide" "[J") ∈ kt_all := kt_mem (i := 87) (by decide +kernel) (by decide +kernel)
theorem kt_w66 : (Jvm.Cond.fieldLink "KeyCurve$Prime" (15 : Nat) "KeyCurve$Prime" "high" "[J") ∈ kt_all := kt_mem (i := 88) (by decide +kernel) (by decide +kernel)
theorem kt_w67 : (Jvm.Cond.fieldLink "KeyCurve$Prime" (18 : Nat) "KeyCurve$Prime" "seed" "[J") ∈ kt_all := kt_mem (i := 89) (by decide +kernel) (by decide +kernel)
theorem kt_w68 : (Jvm.Cond.fieldLink "KeyCurve$Prime" (21 : Nat) "KeyCurve$Prime" "grown" "[J") ∈ kt_all := kt_mem (i := 90) (by decide +kernel) (by decide +kernel)
theorem kt_w69 : (Jvm.Cond.fieldLink "KeyCurve$Prime" (24 : Nat) "KeyCurve$Prime" "trimmed" "[J") ∈ kt_all := kt_mem (i := 91) (by decide +kernel) (by decide +kernel)
theorem kt_w70 : (Jvm.Cond.laysFinal "KeyCurve$Prime" "KeyCurve$Prime" "prime" "[J") ∈ kt_all := kt_mem (i := 92) (by decide +kernel) (by decide +kernel)
theorem kt_w72 : (Jvm.Cond.laysFinal "KeyCurve$Prime" "KeyCurve$Prime" "gap" "[J") ∈ kt_all := kt_mem (i := 94) (by decide +kernel) (by decide +kernel)
theorem kt_w74 : (Jvm.Cond.laysFinal "KeyCurve$Prime" "KeyCurve$Prime" "gapWords" "I") ∈ kt_all := kt_mem (i := 96) (by decide +kernel) (by decide +kernel)
theorem kt_w76 : (Jvm.Cond.laysFinal "KeyCurve$Prime" "KeyCurve$Prime" "inversePower" "[J") ∈ kt_all := kt_mem (i := 98) (by decide +kernel) (by decide +kernel)
theorem kt_w78 : (Jvm.Cond.laysFinal "KeyCurve$Prime" "KeyCurve$Prime" "wide" "[J") ∈ kt_all := kt_mem (i := 100) (by decide +kernel) (by decide +kernel)
theorem kt_w80 : (Jvm.Cond.laysFinal "KeyCurve$Prime" "KeyCurve$Prime" "high" "[J") ∈ kt_all := kt_mem (i := 102) (by decide +kernel) (by decide +kernel)
theorem kt_w82 : (Jvm.Cond.laysFinal "KeyCurve$Prime" "KeyCurve$Prime" "seed" "[J") ∈ kt_all := kt_mem (i := 104) (by decide +kernel) (by decide +kernel)
theorem kt_w84 : (Jvm.Cond.laysFinal "KeyCurve$Prime" "KeyCurve$Prime" "grown" "[J") ∈ kt_all := kt_mem (i := 106) (by decide +kernel) (by decide +kernel)
theorem kt_w86 : (Jvm.Cond.laysFinal "KeyCurve$Prime" "KeyCurve$Prime" "trimmed" "[J") ∈ kt_all := kt_mem (i := 108) (by decide +kernel) (by decide +kernel)
theorem kt_w89 : (Jvm.Cond.fieldLink "KeyCurve" (37 : Nat) "KeyCurve" "ORDER" "[J") ∈ kt_all := kt_mem (i := 111) (by decide +kernel) (by decide +kernel)
theorem kt_w91 : (Jvm.Cond.fieldLink "KeyCurve" (40 : Nat) "KeyCurve" "ORDER_GAP" "[J") ∈ kt_all := kt_mem (i := 113) (by decide +kernel) (by decide +kernel)
theorem kt_w93 : (Jvm.Cond.classLink "KeyCurve" (46 : Nat) "KeyCurve$Curve") ∈ kt_all := kt_mem (i := 115) (by decide +kernel) (by decide +kernel)
theorem kt_w94 : (Jvm.Cond.instantiable "KeyCurve$Curve" (12 : Nat)) ∈ kt_all := kt_mem (i := 116) (by decide +kernel) (by decide +kernel)
theorem kt_w95 : (Jvm.Cond.methodLink "KeyCurve" (48 : Nat) ({ cls := "KeyCurve$Curve", name := "<init>", desc := "(LKeyCurve$Prime;)V" } : Jvm.MethodName)) ∈ kt_all := kt_mem (i := 117) (by decide +kernel) (by decide +kernel)
theorem kt_w96 : (Jvm.Cond.instanceMethod ({ cls := "KeyCurve$Curve", name := "<init>", desc := "(LKeyCurve$Prime;)V" } : Jvm.MethodName)) ∈ kt_all := kt_mem (i := 118) (by decide +kernel) (by decide +kernel)
theorem kt_w97 : (Jvm.Cond.code ({ cls := "KeyCurve$Curve", name := "<init>", desc := "(LKeyCurve$Prime;)V" } : Jvm.MethodName) prog_2_method_1_code (2 : Nat) (Option.none : Option Jvm.ClassFile.FieldType)) ∈ kt_all := kt_mem (i := 119) (by decide +kernel) (by decide +kernel)
theorem kt_w98 : (Jvm.Cond.methodLink "KeyCurve$Curve" (3 : Nat) ({ cls := "java/lang/Object", name := "<init>", desc := "()V" } : Jvm.MethodName)) ∈ kt_all := kt_mem (i := 120) (by decide +kernel) (by decide +kernel)
theorem kt_w99 : (Jvm.Cond.fieldLink "KeyCurve$Curve" (45 : Nat) "KeyCurve$Curve" "field" "LKeyCurve$Prime;") ∈ kt_all := kt_mem (i := 121) (by decide +kernel) (by decide +kernel)
theorem kt_w100 : (Jvm.Cond.fieldLink "KeyCurve$Curve" (9 : Nat) "KeyCurve$Curve" "x" "[J") ∈ kt_all := kt_mem (i := 122) (by decide +kernel) (by decide +kernel)
theorem kt_w101 : (Jvm.Cond.fieldLink "KeyCurve$Curve" (15 : Nat) "KeyCurve$Curve" "y" "[J") ∈ kt_all := kt_mem (i := 123) (by decide +kernel) (by decide +kernel)
theorem kt_w102 : (Jvm.Cond.fieldLink "KeyCurve$Curve" (18 : Nat) "KeyCurve$Curve" "z" "[J") ∈ kt_all := kt_mem (i := 124) (by decide +kernel) (by decide +kernel)
theorem kt_w103 : (Jvm.Cond.fieldLink "KeyCurve$Curve" (21 : Nat) "KeyCurve$Curve" "run" "[J") ∈ kt_all := kt_mem (i := 125) (by decide +kernel) (by decide +kernel)
theorem kt_w104 : (Jvm.Cond.fieldLink "KeyCurve$Curve" (24 : Nat) "KeyCurve$Curve" "rise" "[J") ∈ kt_all := kt_mem (i := 126) (by decide +kernel) (by decide +kernel)
theorem kt_w105 : (Jvm.Cond.fieldLink "KeyCurve$Curve" (27 : Nat) "KeyCurve$Curve" "square" "[J") ∈ kt_all := kt_mem (i := 127) (by decide +kernel) (by decide +kernel)
theorem kt_w106 : (Jvm.Cond.fieldLink "KeyCurve$Curve" (30 : Nat) "KeyCurve$Curve" "cube" "[J") ∈ kt_all := kt_mem (i := 128) (by decide +kernel) (by decide +kernel)
theorem kt_w107 : (Jvm.Cond.fieldLink "KeyCurve$Curve" (33 : Nat) "KeyCurve$Curve" "shared" "[J") ∈ kt_all := kt_mem (i := 129) (by decide +kernel) (by decide +kernel)
theorem kt_w108 : (Jvm.Cond.fieldLink "KeyCurve$Curve" (36 : Nat) "KeyCurve$Curve" "found" "[J") ∈ kt_all := kt_mem (i := 130) (by decide +kernel) (by decide +kernel)
theorem kt_w109 : (Jvm.Cond.fieldLink "KeyCurve$Curve" (39 : Nat) "KeyCurve$Curve" "wanted" "[J") ∈ kt_all := kt_mem (i := 131) (by decide +kernel) (by decide +kernel)
theorem kt_w110 : (Jvm.Cond.fieldLink "KeyCurve$Curve" (42 : Nat) "KeyCurve$Curve" "check" "[J") ∈ kt_all := kt_mem (i := 132) (by decide +kernel) (by decide +kernel)
theorem kt_w111 : (Jvm.Cond.laysFinal "KeyCurve$Curve" "KeyCurve$Curve" "field" "LKeyCurve$Prime;") ∈ kt_all := kt_mem (i := 133) (by decide +kernel) (by decide +kernel)
theorem kt_w113 : (Jvm.Cond.laysFinal "KeyCurve$Curve" "KeyCurve$Curve" "x" "[J") ∈ kt_all := kt_mem (i := 135) (by decide +kernel) (by decide +kernel)
theorem kt_w115 : (Jvm.Cond.laysFinal "KeyCurve$Curve" "KeyCurve$Curve" "y" "[J") ∈ kt_all := kt_mem (i := 137) (by decide +kernel) (by decide +kernel)
theorem kt_w117 : (Jvm.Cond.laysFinal "KeyCurve$Curve" "KeyCurve$Curve" "z" "[J") ∈ kt_all := kt_mem (i := 139) (by decide +kernel) (by decide +kernel)
theorem kt_w119 : (Jvm.Cond.laysFinal "KeyCurve$Curve" "KeyCurve$Curve" "run" "[J") ∈ kt_all := kt_mem (i := 141) (by decide +kernel) (by decide +kernel)
theorem kt_w121 : (Jvm.Cond.laysFinal "KeyCurve$Curve" "KeyCurve$Curve" "rise" "[J") ∈ kt_all := kt_mem (i := 143) (by decide +kernel) (by decide +kernel)
theorem kt_w123 : (Jvm.Cond.laysFinal "KeyCurve$Curve" "KeyCurve$Curve" "square" "[J") ∈ kt_all := kt_mem (i := 145) (by decide +kernel) (by decide +kernel)
theorem kt_w125 : (Jvm.Cond.laysFinal "KeyCurve$Curve" "KeyCurve$Curve" "cube" "[J") ∈ kt_all := kt_mem (i := 147) (by decide +kernel) (by decide +kernel)
theorem kt_w127 : (Jvm.Cond.laysFinal "KeyCurve$Curve" "KeyCurve$Curve" "shared" "[J") ∈ kt_all := kt_mem (i := 149) (by decide +kernel) (by decide +kernel)
theorem kt_w129 : (Jvm.Cond.laysFinal "KeyCurve$Curve" "KeyCurve$Curve" "found" "[J") ∈ kt_all := kt_mem (i := 151) (by decide +kernel) (by decide +kernel)
theorem kt_w131 : (Jvm.Cond.laysFinal "KeyCurve$Curve" "KeyCurve$Curve" "wanted" "[J") ∈ kt_all := kt_mem (i := 153) (by decide +kernel) (by decide +kernel)
theorem kt_w133 : (Jvm.Cond.laysFinal "KeyCurve$Curve" "KeyCurve$Curve" "check" "[J") ∈ kt_all := kt_mem (i := 155) (by decide +kernel) (by decide +kernel)
theorem kt_w136 : (Jvm.Cond.fieldLink "KeyCurve" (11 : Nat) "KeyCurve" "registers" "[[J") ∈ kt_all := kt_mem (i := 158) (by decide +kernel) (by decide +kernel)
theorem kt_w137 : (Jvm.Cond.fieldLink "KeyCurve" (16 : Nat) "KeyCurve" "points" "[LKeyCurve$Spot;") ∈ kt_all := kt_mem (i := 159) (by decide +kernel) (by decide +kernel)
theorem kt_w138 : (Jvm.Cond.fieldLink "KeyCurve" (33 : Nat) "KeyCurve" "field" "LKeyCurve$Prime;") ∈ kt_all := kt_mem (i := 160) (by decide +kernel) (by decide +kernel)
theorem kt_w139 : (Jvm.Cond.fieldLink "KeyCurve" (43 : Nat) "KeyCurve" "order" "LKeyCurve$Prime;") ∈ kt_all := kt_mem (i := 161) (by decide +kernel) (by decide +kernel)
theorem kt_w140 : (Jvm.Cond.fieldLink "KeyCurve" (51 : Nat) "KeyCurve" "curve" "LKeyCurve$Curve;") ∈ kt_all := kt_mem (i := 162) (by decide +kernel) (by decide +kernel)
theorem kt_w141 : (Jvm.Cond.laysFinal "KeyCurve" "KeyCurve" "registers" "[[J") ∈ kt_all := kt_mem (i := 163) (by decide +kernel) (by decide +kernel)
theorem kt_w143 : (Jvm.Cond.laysFinal "KeyCurve" "KeyCurve" "points" "[LKeyCurve$Spot;") ∈ kt_all := kt_mem (i := 165) (by decide +kernel) (by decide +kernel)
theorem kt_w145 : (Jvm.Cond.laysFinal "KeyCurve" "KeyCurve" "field" "LKeyCurve$Prime;") ∈ kt_all := kt_mem (i := 167) (by decide +kernel) (by decide +kernel)
theorem kt_w147 : (Jvm.Cond.laysFinal "KeyCurve" "KeyCurve" "order" "LKeyCurve$Prime;") ∈ kt_all := kt_mem (i := 169) (by decide +kernel) (by decide +kernel)
theorem kt_w149 : (Jvm.Cond.laysFinal "KeyCurve" "KeyCurve" "curve" "LKeyCurve$Curve;") ∈ kt_all := kt_mem (i := 171) (by decide +kernel) (by decide +kernel)
theorem kt_w152 : (Jvm.Cond.methodLink "KeyCurveLaw" (13 : Nat) ({ cls := "KeyCurve", name := "set", desc := "(III)I" } : Jvm.MethodName)) ∈ kt_all := kt_mem (i := 174) (by decide +kernel) (by decide +kernel)
theorem kt_w153 : (Jvm.Cond.instanceMethod ({ cls := "KeyCurve", name := "set", desc := "(III)I" } : Jvm.MethodName)) ∈ kt_all := kt_mem (i := 175) (by decide +kernel) (by decide +kernel)
theorem kt_w154 : (Jvm.Cond.selects "KeyCurve" ({ cls := "KeyCurve", name := "set", desc := "(III)I" } : Jvm.MethodName) ({ cls := "KeyCurve", name := "set", desc := "(III)I" } : Jvm.MethodName)) ∈ kt_all := kt_mem (i := 176) (by decide +kernel) (by decide +kernel)
theorem kt_w155 : (Jvm.Cond.code ({ cls := "KeyCurve", name := "set", desc := "(III)I" } : Jvm.MethodName) prog_1_method_2_code (6 : Nat) (Option.some Jvm.ClassFile.FieldType.int)) ∈ kt_all := kt_mem (i := 177) (by decide +kernel) (by decide +kernel)
theorem kt_w156 : (Jvm.Cond.methodLink "KeyCurve" (55 : Nat) ({ cls := "KeyCurve", name := "register", desc := "(I)[J" } : Jvm.MethodName)) ∈ kt_all := kt_mem (i := 178) (by decide +kernel) (by decide +kernel)
theorem kt_w158 : (Jvm.Cond.instanceMethod ({ cls := "KeyCurve", name := "register", desc := "(I)[J" } : Jvm.MethodName)) ∈ kt_all := kt_mem (i := 180) (by decide +kernel) (by decide +kernel)
theorem kt_w159 : (Jvm.Cond.code ({ cls := "KeyCurve", name := "register", desc := "(I)[J" } : Jvm.MethodName) prog_1_method_17_code (2 : Nat) (Option.some (Jvm.ClassFile.FieldType.array Jvm.ClassFile.FieldType.long))) ∈ kt_all := kt_mem (i := 181) (by decide +kernel) (by decide +kernel)
theorem kt_w160 : (Jvm.Cond.constantLong "KeyCurve" (59 : Nat) (4294967295 : Int64)) ∈ kt_all := kt_mem (i := 182) (by decide +kernel) (by decide +kernel)
theorem kt_w161 : (Jvm.Cond.methodLink "KeyCurveLaw" (18 : Nat) ({ cls := "KeyCurve", name := "get", desc := "(II)I" } : Jvm.MethodName)) ∈ kt_all := kt_mem (i := 183) (by decide +kernel) (by decide +kernel)
theorem kt_w162 : (Jvm.Cond.instanceMethod ({ cls := "KeyCurve", name := "get", desc := "(II)I" } : Jvm.MethodName)) ∈ kt_all := kt_mem (i := 184) (by decide +kernel) (by decide +kernel)
theorem kt_w163 : (Jvm.Cond.selects "KeyCurve" ({ cls := "KeyCurve", name := "get", desc := "(II)I" } : Jvm.MethodName) ({ cls := "KeyCurve", name := "get", desc := "(II)I" } : Jvm.MethodName)) ∈ kt_all := kt_mem (i := 185) (by decide +kernel) (by decide +kernel)
theorem kt_w164 : (Jvm.Cond.code ({ cls := "KeyCurve", name := "get", desc := "(II)I" } : Jvm.MethodName) prog_1_method_3_code (3 : Nat) (Option.some Jvm.ClassFile.FieldType.int)) ∈ kt_all := kt_mem (i := 186) (by decide +kernel) (by decide +kernel)
theorem kt_w165 : (Jvm.Cond.methodLink "KeyCurveLaw" (23 : Nat) ({ cls := "KeyCurve", name := "add", desc := "(IIIZ)V" } : Jvm.MethodName)) ∈ kt_all := kt_mem (i := 187) (by decide +kernel) (by decide +kernel)
theorem kt_w166 : (Jvm.Cond.instanceMethod ({ cls := "KeyCurve", name := "add", desc := "(IIIZ)V" } : Jvm.MethodName)) ∈ kt_all := kt_mem (i := 188) (by decide +kernel) (by decide +kernel)
theorem kt_w167 : (Jvm.Cond.selects "KeyCurve" ({ cls := "KeyCurve", name := "add", desc := "(IIIZ)V" } : Jvm.MethodName) ({ cls := "KeyCurve", name := "add", desc := "(IIIZ)V" } : Jvm.MethodName)) ∈ kt_all := kt_mem (i := 189) (by decide +kernel) (by decide +kernel)
theorem kt_w168 : (Jvm.Cond.code ({ cls := "KeyCurve", name := "add", desc := "(IIIZ)V" } : Jvm.MethodName) prog_1_method_4_code (5 : Nat) (Option.none : Option Jvm.ClassFile.FieldType)) ∈ kt_all := kt_mem (i := 190) (by decide +kernel) (by decide +kernel)
theorem kt_w169 : (Jvm.Cond.methodLink "KeyCurve" (61 : Nat) ({ cls := "KeyCurve", name := "prime", desc := "(Z)LKeyCurve$Prime;" } : Jvm.MethodName)) ∈ kt_all := kt_mem (i := 191) (by decide +kernel) (by decide +kernel)
theorem kt_w171 : (Jvm.Cond.instanceMethod ({ cls := "KeyCurve", name := "prime", desc := "(Z)LKeyCurve$Prime;" } : Jvm.MethodName)) ∈ kt_all := kt_mem (i := 193) (by decide +kernel) (by decide +kernel)
theorem kt_w172 : (Jvm.Cond.code ({ cls := "KeyCurve", name := "prime", desc := "(Z)LKeyCurve$Prime;" } : Jvm.MethodName) prog_1_method_19_code (2 : Nat) (Option.some (Jvm.ClassFile.FieldType.object "KeyCurve$Prime"))) ∈ kt_all := kt_mem (i := 194) (by decide +kernel) (by decide +kernel)
theorem kt_w173 : (Jvm.Cond.methodLink "KeyCurve" (65 : Nat) ({ cls := "KeyCurve$Prime", name := "sum", desc := "([J[J[J)V" } : Jvm.MethodName)) ∈ kt_all := kt_mem (i := 195) (by decide +kernel) (by decide +kernel)
theorem kt_w174 : (Jvm.Cond.instanceMethod ({ cls := "KeyCurve$Prime", name := "sum", desc := "([J[J[J)V" } : Jvm.MethodName)) ∈ kt_all := kt_mem (i := 196) (by decide +kernel) (by decide +kernel)
theorem kt_w175 : (Jvm.Cond.selects "KeyCurve$Prime" ({ cls := "KeyCurve$Prime", name := "sum", desc := "([J[J[J)V" } : Jvm.MethodName) ({ cls := "KeyCurve$Prime", name := "sum", desc := "([J[J[J)V" } : Jvm.MethodName)) ∈ kt_all := kt_mem (i := 197) (by decide +kernel) (by decide +kernel)
theorem kt_w176 : (Jvm.Cond.code ({ cls := "KeyCurve$Prime", name := "sum", desc := "([J[J[J)V" } : Jvm.MethodName) prog_3_method_2_code (7 : Nat) (Option.none : Option Jvm.ClassFile.FieldType)) ∈ kt_all := kt_mem (i := 198) (by decide +kernel) (by decide +kernel)
theorem kt_w177 : (Jvm.Cond.methodLink "KeyCurve$Prime" (47 : Nat) ({ cls := "KeyCurve$Words", name := "sumInto", desc := "([J[J[J)J" } : Jvm.MethodName)) ∈ kt_all := kt_mem (i := 199) (by decide +kernel) (by decide +kernel)
theorem kt_w178 : (Jvm.Cond.static ({ cls := "KeyCurve$Words", name := "sumInto", desc := "([J[J[J)J" } : Jvm.MethodName)) ∈ kt_all := kt_mem (i := 200) (by decide +kernel) (by decide +kernel)
theorem kt_w179 : (Jvm.Cond.code ({ cls := "KeyCurve$Words", name := "sumInto", desc := "([J[J[J)J" } : Jvm.MethodName) prog_5_method_8_code (8 : Nat) (Option.some Jvm.ClassFile.FieldType.long)) ∈ kt_all := kt_mem (i := 201) (by decide +kernel) (by decide +kernel)
theorem kt_w180 : (Jvm.Cond.constantLong "KeyCurve$Words" (15 : Nat) (4294967295 : Int64)) ∈ kt_all := kt_mem (i := 202) (by decide +kernel) (by decide +kernel)
theorem kt_w181 : (Jvm.Cond.methodLink "KeyCurve$Prime" (53 : Nat) ({ cls := "KeyCurve$Prime", name := "trim", desc := "([J)V" } : Jvm.MethodName)) ∈ kt_all := kt_mem (i := 203) (by decide +kernel) (by decide +kernel)
theorem kt_w182 : (Jvm.Cond.instanceMethod ({ cls := "KeyCurve$Prime", name := "trim", desc := "([J)V" } : Jvm.MethodName)) ∈ kt_all := kt_mem (i := 204) (by decide +kernel) (by decide +kernel)
theorem kt_w183 : (Jvm.Cond.selects "KeyCurve$Prime" ({ cls := "KeyCurve$Prime", name := "trim", desc := "([J)V" } : Jvm.MethodName) ({ cls := "KeyCurve$Prime", name := "trim", desc := "([J)V" } : Jvm.MethodName)) ∈ kt_all := kt_mem (i := 205) (by decide +kernel) (by decide +kernel)
theorem kt_w184 : (Jvm.Cond.code ({ cls := "KeyCurve$Prime", name := "trim", desc := "([J)V" } : Jvm.MethodName) prog_3_method_7_code (2 : Nat) (Option.none : Option Jvm.ClassFile.FieldType)) ∈ kt_all := kt_mem (i := 206) (by decide +kernel) (by decide +kernel)
theorem kt_w185 : (Jvm.Cond.methodLink "KeyCurve$Prime" (93 : Nat) ({ cls := "KeyCurve$Words", name := "isBelow", desc := "([J[J)Z" } : Jvm.MethodName)) ∈ kt_all := kt_mem (i := 207) (by decide +kernel) (by decide +kernel)
theorem kt_w186 : (Jvm.Cond.static ({ cls := "KeyCurve$Words", name := "isBelow", desc := "([J[J)Z" } : Jvm.MethodName)) ∈ kt_all := kt_mem (i := 208) (by decide +kernel) (by decide +kernel)
theorem kt_w187 : (Jvm.Cond.code ({ cls := "KeyCurve$Words", name := "isBelow", desc := "([J[J)Z" } : Jvm.MethodName) prog_5_method_5_code (3 : Nat) (Option.some Jvm.ClassFile.FieldType.boolean)) ∈ kt_all := kt_mem (i := 209) (by decide +kernel) (by decide +kernel)
theorem kt_w188 : (Jvm.Cond.methodLink "KeyCurve$Prime" (57 : Nat) ({ cls := "KeyCurve$Words", name := "differenceInto", desc := "([J[J[J)J" } : Jvm.MethodName)) ∈ kt_all := kt_mem (i := 210) (by decide +kernel) (by decide +kernel)
theorem kt_w189 : (Jvm.Cond.static ({ cls := "KeyCurve$Words", name := "differenceInto", desc := "([J[J[J)J" } : Jvm.MethodName)) ∈ kt_all := kt_mem (i := 211) (by decide +kernel) (by decide +kernel)
theorem kt_w190 : (Jvm.Cond.code ({ cls := "KeyCurve$Words", name := "differenceInto", desc := "([J[J[J)J" } : Jvm.MethodName) prog_5_method_9_code (8 : Nat) (Option.some Jvm.ClassFile.FieldType.long)) ∈ kt_all := kt_mem (i := 212) (by decide +kernel) (by decide +kernel)
theorem kt_w191 : (Jvm.Cond.methodLink "KeyCurveLaw" (28 : Nat) ({ cls := "KeyCurve", name := "subtract", desc := "(IIIZ)V" } : Jvm.MethodName)) ∈ kt_all := kt_mem (i := 213) (by decide +kernel) (by decide +kernel)
theorem kt_w192 : (Jvm.Cond.instanceMethod ({ cls := "KeyCurve", name := "subtract", desc := "(IIIZ)V" } : Jvm.MethodName)) ∈ kt_all := kt_mem (i := 214) (by decide +kernel) (by decide +kernel)
theorem kt_w193 : (Jvm.Cond.selects "KeyCurve" ({ cls := "KeyCurve", name := "subtract", desc := "(IIIZ)V" } : Jvm.MethodName) ({ cls := "KeyCurve", name := "subtract", desc := "(IIIZ)V" } : Jvm.MethodName)) ∈ kt_all := kt_mem (i := 215) (by decide +kernel) (by decide +kernel)
theorem kt_w194 : (Jvm.Cond.code ({ cls := "KeyCurve", name := "subtract", desc := "(IIIZ)V" } : Jvm.MethodName) prog_1_method_5_code (5 : Nat) (Option.none : Option Jvm.ClassFile.FieldType)) ∈ kt_all := kt_mem (i := 216) (by decide +kernel) (by decide +kernel)
theorem kt_w195 : (Jvm.Cond.methodLink "KeyCurve" (69 : Nat) ({ cls := "KeyCurve$Prime", name := "difference", desc := "([J[J[J)V" } : Jvm.MethodName)) ∈ kt_all := kt_mem (i := 217) (by decide +kernel) (by decide +kernel)
theorem kt_w196 : (Jvm.Cond.instanceMethod ({ cls := "KeyCurve$Prime", name := "difference", desc := "([J[J[J)V" } : Jvm.MethodName)) ∈ kt_all := kt_mem (i := 218) (by decide +kernel) (by decide +kernel)
theorem kt_w197 : (Jvm.Cond.selects "KeyCurve$Prime" ({ cls := "KeyCurve$Prime", name := "difference", desc := "([J[J[J)V" } : Jvm.MethodName) ({ cls := "KeyCurve$Prime", name := "difference", desc := "([J[J[J)V" } : Jvm.MethodName)) ∈ kt_all := kt_mem (i := 219) (by decide +kernel) (by decide +kernel)
theorem kt_w198 : (Jvm.Cond.code ({ cls := "KeyCurve$Prime", name := "difference", desc := "([J[J[J)V" } : Jvm.MethodName) prog_3_method_3_code (7 : Nat) (Option.none : Option Jvm.ClassFile.FieldType)) ∈ kt_all := kt_mem (i := 220) (by decide +kernel) (by decide +kernel)
theorem kt_w199 : (Jvm.Cond.methodLink "KeyCurveLaw" (32 : Nat) ({ cls := "KeyCurve", name := "multiply", desc := "(IIIZ)V" } : Jvm.MethodName)) ∈ kt_all := kt_mem (i := 221) (by decide +kernel) (by decide +kernel)
theorem kt_w200 : (Jvm.Cond.instanceMethod ({ cls := "KeyCurve", name := "multiply", desc := "(IIIZ)V" } : Jvm.MethodName)) ∈ kt_all := kt_mem (i := 222) (by decide +kernel) (by decide +kernel)
theorem kt_w201 : (Jvm.Cond.selects "KeyCurve" ({ cls := "KeyCurve", name := "multiply", desc := "(IIIZ)V" } : Jvm.MethodName) ({ cls := "KeyCurve", name := "multiply", desc := "(IIIZ)V" } : Jvm.MethodName)) ∈ kt_all := kt_mem (i := 223) (by decide +kernel) (by decide +kernel)
theorem kt_w202 : (Jvm.Cond.code ({ cls := "KeyCurve", name := "multiply", desc := "(IIIZ)V" } : Jvm.MethodName) prog_1_method_6_code (5 : Nat) (Option.none : Option Jvm.ClassFile.FieldType)) ∈ kt_all := kt_mem (i := 224) (by decide +kernel) (by decide +kernel)
theorem kt_w203 : (Jvm.Cond.methodLink "KeyCurve" (72 : Nat) ({ cls := "KeyCurve$Prime", name := "product", desc := "([J[J[J)V" } : Jvm.MethodName)) ∈ kt_all := kt_mem (i := 225) (by decide +kernel) (by decide +kernel)
theorem kt_w204 : (Jvm.Cond.instanceMethod ({ cls := "KeyCurve$Prime", name := "product", desc := "([J[J[J)V" } : Jvm.MethodName)) ∈ kt_all := kt_mem (i := 226) (by decide +kernel) (by decide +kernel)
theorem kt_w205 : (Jvm.Cond.selects "KeyCurve$Prime" ({ cls := "KeyCurve$Prime", name := "product", desc := "([J[J[J)V" } : Jvm.MethodName) ({ cls := "KeyCurve$Prime", name := "product", desc := "([J[J[J)V" } : Jvm.MethodName)) ∈ kt_all := kt_mem (i := 227) (by decide +kernel) (by decide +kernel)
theorem kt_w206 : (Jvm.Cond.code ({ cls := "KeyCurve$Prime", name := "product", desc := "([J[J[J)V" } : Jvm.MethodName) prog_3_method_4_code (5 : Nat) (Option.none : Option Jvm.ClassFile.FieldType)) ∈ kt_all := kt_mem (i := 228) (by decide +kernel) (by decide +kernel)
theorem kt_w207 : (Jvm.Cond.methodLink "KeyCurve$Prime" (60 : Nat) ({ cls := "KeyCurve$Prime", name := "addRow", desc := "(J[JII)V" } : Jvm.MethodName)) ∈ kt_all := kt_mem (i := 229) (by decide +kernel) (by decide +kernel)
theorem kt_w209 : (Jvm.Cond.instanceMethod ({ cls := "KeyCurve$Prime", name := "addRow", desc := "(J[JII)V" } : Jvm.MethodName)) ∈ kt_all := kt_mem (i := 231) (by decide +kernel) (by decide +kernel)
theorem kt_w210 : (Jvm.Cond.code ({ cls := "KeyCurve$Prime", name := "addRow", desc := "(J[JII)V" } : Jvm.MethodName) prog_3_method_10_code (11 : Nat) (Option.none : Option Jvm.ClassFile.FieldType)) ∈ kt_all := kt_mem (i := 232) (by decide +kernel) (by decide +kernel)
theorem kt_w211 : (Jvm.Cond.constantLong "KeyCurve$Prime" (97 : Nat) (4294967295 : Int64)) ∈ kt_all := kt_mem (i := 233) (by decide +kernel) (by decide +kernel)
theorem kt_w212 : (Jvm.Cond.methodLink "KeyCurve$Prime" (64 : Nat) ({ cls := "KeyCurve$Prime", name := "takeHigh", desc := "()Z" } : Jvm.MethodName)) ∈ kt_all := kt_mem (i := 234) (by decide +kernel) (by decide +kernel)
theorem kt_w214 : (Jvm.Cond.instanceMethod ({ cls := "KeyCurve$Prime", name := "takeHigh", desc := "()Z" } : Jvm.MethodName)) ∈ kt_all := kt_mem (i := 236) (by decide +kernel) (by decide +kernel)
theorem kt_w215 : (Jvm.Cond.code ({ cls := "KeyCurve$Prime", name := "takeHigh", desc := "()Z" } : Jvm.MethodName) prog_3_method_8_code (4 : Nat) (Option.some Jvm.ClassFile.FieldType.boolean)) ∈ kt_all := kt_mem (i := 237) (by decide +kernel) (by decide +kernel)
theorem kt_w216 : (Jvm.Cond.methodLink "KeyCurve$Prime" (68 : Nat) ({ cls := "KeyCurve$Prime", name := "fold", desc := "()V" } : Jvm.MethodName)) ∈ kt_all := kt_mem (i := 238) (by decide +kernel) (by decide +kernel)
theorem kt_w218 : (Jvm.Cond.instanceMethod ({ cls := "KeyCurve$Prime", name := "fold", desc := "()V" } : Jvm.MethodName)) ∈ kt_all := kt_mem (i := 240) (by decide +kernel) (by decide +kernel)
theorem kt_w219 : (Jvm.Cond.code ({ cls := "KeyCurve$Prime", name := "fold", desc := "()V" } : Jvm.MethodName) prog_3_method_9_code (2 : Nat) (Option.none : Option Jvm.ClassFile.FieldType)) ∈ kt_all := kt_mem (i := 241) (by decide +kernel) (by decide +kernel)
theorem kt_w220 : (Jvm.Cond.methodLink "KeyCurve$Prime" (71 : Nat) ({ cls := "KeyCurve$Words", name := "copy", desc := "([J[J)V" } : Jvm.MethodName)) ∈ kt_all := kt_mem (i := 242) (by decide +kernel) (by decide +kernel)
theorem kt_w221 : (Jvm.Cond.static ({ cls := "KeyCurve$Words", name := "copy", desc := "([J[J)V" } : Jvm.MethodName)) ∈ kt_all := kt_mem (i := 243) (by decide +kernel) (by decide +kernel)
theorem kt_w222 : (Jvm.Cond.code ({ cls := "KeyCurve$Words", name := "copy", desc := "([J[J)V" } : Jvm.MethodName) prog_5_method_2_code (2 : Nat) (Option.none : Option Jvm.ClassFile.FieldType)) ∈ kt_all := kt_mem (i := 244) (by decide +kernel) (by decide +kernel)
theorem kt_w223 : (Jvm.Cond.methodLink "KeyCurve$Words" (9 : Nat) ({ cls := "java/lang/System", name := "arraycopy", desc := "(Ljava/lang/Object;ILjava/lang/Object;II)V" } : Jvm.MethodName)) ∈ kt_all := kt_mem (i := 245) (by decide +kernel) (by decide +kernel)
theorem kt_w224 : (Jvm.Cond.static ({ cls := "java/lang/System", name := "arraycopy", desc := "(Ljava/lang/Object;ILjava/lang/Object;II)V" } : Jvm.MethodName)) ∈ kt_all := kt_mem (i := 246) (by decide +kernel) (by decide +kernel)
theorem kt_w226 : (Jvm.Cond.methodLink "KeyCurveLaw" (36 : Nat) ({ cls := "KeyCurve", name := "invert", desc := "(IIZ)Z" } : Jvm.MethodName)) ∈ kt_all := kt_mem (i := 248) (by decide +kernel) (by decide +kernel)
theorem kt_w227 : (Jvm.Cond.instanceMethod ({ cls := "KeyCurve", name := "invert", desc := "(IIZ)Z" } : Jvm.MethodName)) ∈ kt_all := kt_mem (i := 249) (by decide +kernel) (by decide +kernel)
theorem kt_w228 : (Jvm.Cond.selects "KeyCurve" ({ cls := "KeyCurve", name := "invert", desc := "(IIZ)Z" } : Jvm.MethodName) ({ cls := "KeyCurve", name := "invert", desc := "(IIZ)Z" } : Jvm.MethodName)) ∈ kt_all := kt_mem (i := 250) (by decide +kernel) (by decide +kernel)
theorem kt_w229 : (Jvm.Cond.code ({ cls := "KeyCurve", name := "invert", desc := "(IIZ)Z" } : Jvm.MethodName) prog_1_method_7_code (4 : Nat) (Option.some Jvm.ClassFile.FieldType.boolean)) ∈ kt_all := kt_mem (i := 251) (by decide +kernel) (by decide +kernel)
theorem kt_w230 : (Jvm.Cond.methodLink "KeyCurve" (75 : Nat) ({ cls := "KeyCurve$Prime", name := "inverse", desc := "([J[J)Z" } : Jvm.MethodName)) ∈ kt_all := kt_mem (i := 252) (by decide +kernel) (by decide +kernel)
theorem kt_w231 : (Jvm.Cond.instanceMethod ({ cls := "KeyCurve$Prime", name := "inverse", desc := "([J[J)Z" } : Jvm.MethodName)) ∈ kt_all := kt_mem (i := 253) (by decide +kernel) (by decide +kernel)
theorem kt_w232 : (Jvm.Cond.selects "KeyCurve$Prime" ({ cls := "KeyCurve$Prime", name := "inverse", desc := "([J[J)Z" } : Jvm.MethodName) ({ cls := "KeyCurve$Prime", name := "inverse", desc := "([J[J)Z" } : Jvm.MethodName)) ∈ kt_all := kt_mem (i := 254) (by decide +kernel) (by decide +kernel)
theorem kt_w233 : (Jvm.Cond.code ({ cls := "KeyCurve$Prime", name := "inverse", desc := "([J[J)Z" } : Jvm.MethodName) prog_3_method_6_code (3 : Nat) (Option.some Jvm.ClassFile.FieldType.boolean)) ∈ kt_all := kt_mem (i := 255) (by decide +kernel) (by decide +kernel)
theorem kt_w234 : (Jvm.Cond.methodLink "KeyCurve$Prime" (86 : Nat) ({ cls := "KeyCurve$Words", name := "isZero", desc := "([J)Z" } : Jvm.MethodName)) ∈ kt_all := kt_mem (i := 256) (by decide +kernel) (by decide +kernel)
theorem kt_w235 : (Jvm.Cond.static ({ cls := "KeyCurve$Words", name := "isZero", desc := "([J)Z" } : Jvm.MethodName)) ∈ kt_all := kt_mem (i := 257) (by decide +kernel) (by decide +kernel)
theorem kt_w236 : (Jvm.Cond.code ({ cls := "KeyCurve$Words", name := "isZero", desc := "([J)Z" } : Jvm.MethodName) prog_5_method_3_code (4 : Nat) (Option.some Jvm.ClassFile.FieldType.boolean)) ∈ kt_all := kt_mem (i := 258) (by decide +kernel) (by decide +kernel)
theorem kt_w237 : (Jvm.Cond.methodLink "KeyCurve$Prime" (90 : Nat) ({ cls := "KeyCurve$Prime", name := "power", desc := "([J[J[J)V" } : Jvm.MethodName)) ∈ kt_all := kt_mem (i := 259) (by decide +kernel) (by decide +kernel)
theorem kt_w238 : (Jvm.Cond.instanceMethod ({ cls := "KeyCurve$Prime", name := "power", desc := "([J[J[J)V" } : Jvm.MethodName)) ∈ kt_all := kt_mem (i := 260) (by decide +kernel) (by decide +kernel)
theorem kt_w239 : (Jvm.Cond.selects "KeyCurve$Prime" ({ cls := "KeyCurve$Prime", name := "power", desc := "([J[J[J)V" } : Jvm.MethodName) ({ cls := "KeyCurve$Prime", name := "power", desc := "([J[J[J)V" } : Jvm.MethodName)) ∈ kt_all := kt_mem (i := 261) (by decide +kernel) (by decide +kernel)
theorem kt_w240 : (Jvm.Cond.code ({ cls := "KeyCurve$Prime", name := "power", desc := "([J[J[J)V" } : Jvm.MethodName) prog_3_method_5_code (5 : Nat) (Option.none : Option Jvm.ClassFile.FieldType)) ∈ kt_all := kt_mem (i := 262) (by decide +kernel) (by decide +kernel)
theorem kt_w243 : (Jvm.Cond.methodLink "KeyCurve$Prime" (78 : Nat) ({ cls := "KeyCurve$Prime", name := "product", desc := "([J[J[J)V" } : Jvm.MethodName)) ∈ kt_all := kt_mem (i := 265) (by decide +kernel) (by decide +kernel)
theorem kt_w244 : (Jvm.Cond.methodLink "KeyCurve$Prime" (82 : Nat) ({ cls := "KeyCurve$Words", name := "hasBit", desc := "([JI)Z" } : Jvm.MethodName)) ∈ kt_all := kt_mem (i := 266) (by decide +kernel) (by decide +kernel)
theorem kt_w245 : (Jvm.Cond.static ({ cls := "KeyCurve$Words", name := "hasBit", desc := "([JI)Z" } : Jvm.MethodName)) ∈ kt_all := kt_mem (i := 267) (by decide +kernel) (by decide +kernel)
theorem kt_w246 : (Jvm.Cond.code ({ cls := "KeyCurve$Words", name := "hasBit", desc := "([JI)Z" } : Jvm.MethodName) prog_5_method_7_code (2 : Nat) (Option.some Jvm.ClassFile.FieldType.boolean)) ∈ kt_all := kt_mem (i := 268) (by decide +kernel) (by decide +kernel)
theorem kt_w247 : (Jvm.Cond.methodLink "KeyCurveLaw" (41 : Nat) ({ cls := "KeyCurve", name := "root", desc := "(II)Z" } : Jvm.MethodName)) ∈ kt_all := kt_mem (i := 269) (by decide +kernel) (by decide +kernel)
theorem kt_w248 : (Jvm.Cond.instanceMethod ({ cls := "KeyCurve", name := "root", desc := "(II)Z" } : Jvm.MethodName)) ∈ kt_all := kt_mem (i := 270) (by decide +kernel) (by decide +kernel)
theorem kt_w249 : (Jvm.Cond.selects "KeyCurve" ({ cls := "KeyCurve", name := "root", desc := "(II)Z" } : Jvm.MethodName) ({ cls := "KeyCurve", name := "root", desc := "(II)Z" } : Jvm.MethodName)) ∈ kt_all := kt_mem (i := 271) (by decide +kernel) (by decide +kernel)
theorem kt_w250 : (Jvm.Cond.code ({ cls := "KeyCurve", name := "root", desc := "(II)Z" } : Jvm.MethodName) prog_1_method_8_code (3 : Nat) (Option.some Jvm.ClassFile.FieldType.boolean)) ∈ kt_all := kt_mem (i := 272) (by decide +kernel) (by decide +kernel)
theorem kt_w251 : (Jvm.Cond.methodLink "KeyCurve" (79 : Nat) ({ cls := "KeyCurve$Curve", name := "evenRoot", desc := "([J[J)Z" } : Jvm.MethodName)) ∈ kt_all := kt_mem (i := 273) (by decide +kernel) (by decide +kernel)
theorem kt_w252 : (Jvm.Cond.instanceMethod ({ cls := "KeyCurve$Curve", name := "evenRoot", desc := "([J[J)Z" } : Jvm.MethodName)) ∈ kt_all := kt_mem (i := 274) (by decide +kernel) (by decide +kernel)
theorem kt_w253 : (Jvm.Cond.selects "KeyCurve$Curve" ({ cls := "KeyCurve$Curve", name := "evenRoot", desc := "([J[J)Z" } : Jvm.MethodName) ({ cls := "KeyCurve$Curve", name := "evenRoot", desc := "([J[J)Z" } : Jvm.MethodName)) ∈ kt_all := kt_mem (i := 275) (by decide +kernel) (by decide +kernel)
theorem kt_w254 : (Jvm.Cond.code ({ cls := "KeyCurve$Curve", name := "evenRoot", desc := "([J[J)Z" } : Jvm.MethodName) prog_2_method_2_code (3 : Nat) (Option.some Jvm.ClassFile.FieldType.boolean)) ∈ kt_all := kt_mem (i := 276) (by decide +kernel) (by decide +kernel)
theorem kt_w255 : (Jvm.Cond.methodLink "KeyCurve$Curve" (49 : Nat) ({ cls := "KeyCurve$Words", name := "copy", desc := "([J[J)V" } : Jvm.MethodName)) ∈ kt_all := kt_mem (i := 277) (by decide +kernel) (by decide +kernel)
theorem kt_w256 : (Jvm.Cond.methodLink "KeyCurve$Curve" (55 : Nat) ({ cls := "KeyCurve$Prime", name := "trim", desc := "([J)V" } : Jvm.MethodName)) ∈ kt_all := kt_mem (i := 278) (by decide +kernel) (by decide +kernel)
theorem kt_w259 : (Jvm.Cond.methodLink "KeyCurve$Curve" (64 : Nat) ({ cls := "KeyCurve$Prime", name := "power", desc := "([J[J[J)V" } : Jvm.MethodName)) ∈ kt_all := kt_mem (i := 281) (by decide +kernel) (by decide +kernel)
theorem kt_w260 : (Jvm.Cond.methodLink "KeyCurve$Curve" (68 : Nat) ({ cls := "KeyCurve$Prime", name := "product", desc := "([J[J[J)V" } : Jvm.MethodName)) ∈ kt_all := kt_mem (i := 282) (by decide +kernel) (by decide +kernel)
theorem kt_w261 : (Jvm.Cond.methodLink "KeyCurve$Curve" (71 : Nat) ({ cls := "KeyCurve$Words", name := "areEqual", desc := "([J[J)Z" } : Jvm.MethodName)) ∈ kt_all := kt_mem (i := 283) (by decide +kernel) (by decide +kernel)
theorem kt_w262 : (Jvm.Cond.static ({ cls := "KeyCurve$Words", name := "areEqual", desc := "([J[J)Z" } : Jvm.MethodName)) ∈ kt_all := kt_mem (i := 284) (by decide +kernel) (by decide +kernel)
theorem kt_w263 : (Jvm.Cond.code ({ cls := "KeyCurve$Words", name := "areEqual", desc := "([J[J)Z" } : Jvm.MethodName) prog_5_method_4_code (3 : Nat) (Option.some Jvm.ClassFile.FieldType.boolean)) ∈ kt_all := kt_mem (i := 285) (by decide +kernel) (by decide +kernel)
theorem kt_w264 : (Jvm.Cond.methodLink "KeyCurve$Curve" (75 : Nat) ({ cls := "KeyCurve$Words", name := "isOdd", desc := "([J)Z" } : Jvm.MethodName)) ∈ kt_all := kt_mem (i := 286) (by decide +kernel) (by decide +kernel)
theorem kt_w265 : (Jvm.Cond.static ({ cls := "KeyCurve$Words", name := "isOdd", desc := "([J)Z" } : Jvm.MethodName)) ∈ kt_all := kt_mem (i := 287) (by decide +kernel) (by decide +kernel)
theorem kt_w266 : (Jvm.Cond.code ({ cls := "KeyCurve$Words", name := "isOdd", desc := "([J)Z" } : Jvm.MethodName) prog_5_method_6_code (1 : Nat) (Option.some Jvm.ClassFile.FieldType.boolean)) ∈ kt_all := kt_mem (i := 288) (by decide +kernel) (by decide +kernel)
theorem kt_w268 : (Jvm.Cond.methodLink "KeyCurve$Curve" (82 : Nat) ({ cls := "KeyCurve$Prime", name := "difference", desc := "([J[J[J)V" } : Jvm.MethodName)) ∈ kt_all := kt_mem (i := 290) (by decide +kernel) (by decide +kernel)
theorem kt_w269 : (Jvm.Cond.methodLink "KeyCurveLaw" (46 : Nat) ({ cls := "KeyCurve", name := "base", desc := "(I)V" } : Jvm.MethodName)) ∈ kt_all := kt_mem (i := 291) (by decide +kernel) (by decide +kernel)
theorem kt_w270 : (Jvm.Cond.instanceMethod ({ cls := "KeyCurve", name := "base", desc := "(I)V" } : Jvm.MethodName)) ∈ kt_all := kt_mem (i := 292) (by decide +kernel) (by decide +kernel)
theorem kt_w271 : (Jvm.Cond.selects "KeyCurve" ({ cls := "KeyCurve", name := "base", desc := "(I)V" } : Jvm.MethodName) ({ cls := "KeyCurve", name := "base", desc := "(I)V" } : Jvm.MethodName)) ∈ kt_all := kt_mem (i := 293) (by decide +kernel) (by decide +kernel)
theorem kt_w272 : (Jvm.Cond.code ({ cls := "KeyCurve", name := "base", desc := "(I)V" } : Jvm.MethodName) prog_1_method_9_code (2 : Nat) (Option.none : Option Jvm.ClassFile.FieldType)) ∈ kt_all := kt_mem (i := 294) (by decide +kernel) (by decide +kernel)
theorem kt_w273 : (Jvm.Cond.methodLink "KeyCurve" (82 : Nat) ({ cls := "KeyCurve", name := "spot", desc := "(I)LKeyCurve$Spot;" } : Jvm.MethodName)) ∈ kt_all := kt_mem (i := 295) (by decide +kernel) (by decide +kernel)
theorem kt_w275 : (Jvm.Cond.instanceMethod ({ cls := "KeyCurve", name := "spot", desc := "(I)LKeyCurve$Spot;" } : Jvm.MethodName)) ∈ kt_all := kt_mem (i := 297) (by decide +kernel) (by decide +kernel)
theorem kt_w276 : (Jvm.Cond.code ({ cls := "KeyCurve", name := "spot", desc := "(I)LKeyCurve$Spot;" } : Jvm.MethodName) prog_1_method_18_code (2 : Nat) (Option.some (Jvm.ClassFile.FieldType.object "KeyCurve$Spot"))) ∈ kt_all := kt_mem (i := 298) (by decide +kernel) (by decide +kernel)
theorem kt_w277 : (Jvm.Cond.fieldLink "KeyCurve" (86 : Nat) "KeyCurve" "BASE_X" "[J") ∈ kt_all := kt_mem (i := 299) (by decide +kernel) (by decide +kernel)
theorem kt_w279 : (Jvm.Cond.fieldLink "KeyCurve" (89 : Nat) "KeyCurve" "BASE_Y" "[J") ∈ kt_all := kt_mem (i := 301) (by decide +kernel) (by decide +kernel)
theorem kt_w281 : (Jvm.Cond.methodLink "KeyCurve" (92 : Nat) ({ cls := "KeyCurve$Spot", name := "become", desc := "([J[J)V" } : Jvm.MethodName)) ∈ kt_all := kt_mem (i := 303) (by decide +kernel) (by decide +kernel)
theorem kt_w282 : (Jvm.Cond.instanceMethod ({ cls := "KeyCurve$Spot", name := "become", desc := "([J[J)V" } : Jvm.MethodName)) ∈ kt_all := kt_mem (i := 304) (by decide +kernel) (by decide +kernel)
theorem kt_w283 : (Jvm.Cond.selects "KeyCurve$Spot" ({ cls := "KeyCurve$Spot", name := "become", desc := "([J[J)V" } : Jvm.MethodName) ({ cls := "KeyCurve$Spot", name := "become", desc := "([J[J)V" } : Jvm.MethodName)) ∈ kt_all := kt_mem (i := 305) (by decide +kernel) (by decide +kernel)
theorem kt_w284 : (Jvm.Cond.code ({ cls := "KeyCurve$Spot", name := "become", desc := "([J[J)V" } : Jvm.MethodName) prog_4_method_2_code (3 : Nat) (Option.none : Option Jvm.ClassFile.FieldType)) ∈ kt_all := kt_mem (i := 306) (by decide +kernel) (by decide +kernel)
theorem kt_w285 : (Jvm.Cond.methodLink "KeyCurve$Spot" (22 : Nat) ({ cls := "KeyCurve$Words", name := "copy", desc := "([J[J)V" } : Jvm.MethodName)) ∈ kt_all := kt_mem (i := 307) (by decide +kernel) (by decide +kernel)
theorem kt_w286 : (Jvm.Cond.methodLink "KeyCurveLaw" (51 : Nat) ({ cls := "KeyCurve", name := "none", desc := "(I)V" } : Jvm.MethodName)) ∈ kt_all := kt_mem (i := 308) (by decide +kernel) (by decide +kernel)
theorem kt_w287 : (Jvm.Cond.instanceMethod ({ cls := "KeyCurve", name := "none", desc := "(I)V" } : Jvm.MethodName)) ∈ kt_all := kt_mem (i := 309) (by decide +kernel) (by decide +kernel)
theorem kt_w288 : (Jvm.Cond.selects "KeyCurve" ({ cls := "KeyCurve", name := "none", desc := "(I)V" } : Jvm.MethodName) ({ cls := "KeyCurve", name := "none", desc := "(I)V" } : Jvm.MethodName)) ∈ kt_all := kt_mem (i := 310) (by decide +kernel) (by decide +kernel)
theorem kt_w289 : (Jvm.Cond.code ({ cls := "KeyCurve", name := "none", desc := "(I)V" } : Jvm.MethodName) prog_1_method_10_code (2 : Nat) (Option.none : Option Jvm.ClassFile.FieldType)) ∈ kt_all := kt_mem (i := 311) (by decide +kernel) (by decide +kernel)
theorem kt_w290 : (Jvm.Cond.methodLink "KeyCurveLaw" (55 : Nat) ({ cls := "KeyCurve", name := "point", desc := "(III)Z" } : Jvm.MethodName)) ∈ kt_all := kt_mem (i := 312) (by decide +kernel) (by decide +kernel)
theorem kt_w291 : (Jvm.Cond.instanceMethod ({ cls := "KeyCurve", name := "point", desc := "(III)Z" } : Jvm.MethodName)) ∈ kt_all := kt_mem (i := 313) (by decide +kernel) (by decide +kernel)
theorem kt_w292 : (Jvm.Cond.selects "KeyCurve" ({ cls := "KeyCurve", name := "point", desc := "(III)Z" } : Jvm.MethodName) ({ cls := "KeyCurve", name := "point", desc := "(III)Z" } : Jvm.MethodName)) ∈ kt_all := kt_mem (i := 314) (by decide +kernel) (by decide +kernel)
theorem kt_w293 : (Jvm.Cond.code ({ cls := "KeyCurve", name := "point", desc := "(III)Z" } : Jvm.MethodName) prog_1_method_11_code (4 : Nat) (Option.some Jvm.ClassFile.FieldType.boolean)) ∈ kt_all := kt_mem (i := 315) (by decide +kernel) (by decide +kernel)
theorem kt_w294 : (Jvm.Cond.methodLink "KeyCurve" (100 : Nat) ({ cls := "KeyCurve$Curve", name := "holds", desc := "([J[J)Z" } : Jvm.MethodName)) ∈ kt_all := kt_mem (i := 316) (by decide +kernel) (by decide +kernel)
theorem kt_w295 : (Jvm.Cond.instanceMethod ({ cls := "KeyCurve$Curve", name := "holds", desc := "([J[J)Z" } : Jvm.MethodName)) ∈ kt_all := kt_mem (i := 317) (by decide +kernel) (by decide +kernel)
theorem kt_w296 : (Jvm.Cond.selects "KeyCurve$Curve" ({ cls := "KeyCurve$Curve", name := "holds", desc := "([J[J)Z" } : Jvm.MethodName) ({ cls := "KeyCurve$Curve", name := "holds", desc := "([J[J)Z" } : Jvm.MethodName)) ∈ kt_all := kt_mem (i := 318) (by decide +kernel) (by decide +kernel)
theorem kt_w297 : (Jvm.Cond.code ({ cls := "KeyCurve$Curve", name := "holds", desc := "([J[J)Z" } : Jvm.MethodName) prog_2_method_3_code (3 : Nat) (Option.some Jvm.ClassFile.FieldType.boolean)) ∈ kt_all := kt_mem (i := 319) (by decide +kernel) (by decide +kernel)
theorem kt_w298 : (Jvm.Cond.methodLink "KeyCurve$Curve" (85 : Nat) ({ cls := "KeyCurve$Words", name := "isBelow", desc := "([J[J)Z" } : Jvm.MethodName)) ∈ kt_all := kt_mem (i := 320) (by decide +kernel) (by decide +kernel)
theorem kt_w299 : (Jvm.Cond.methodLink "KeyCurve$Curve" (88 : Nat) ({ cls := "KeyCurve$Curve", name := "putSquareOfY", desc := "([J[J)V" } : Jvm.MethodName)) ∈ kt_all := kt_mem (i := 321) (by decide +kernel) (by decide +kernel)
theorem kt_w301 : (Jvm.Cond.instanceMethod ({ cls := "KeyCurve$Curve", name := "putSquareOfY", desc := "([J[J)V" } : Jvm.MethodName)) ∈ kt_all := kt_mem (i := 323) (by decide +kernel) (by decide +kernel)
theorem kt_w302 : (Jvm.Cond.code ({ cls := "KeyCurve$Curve", name := "putSquareOfY", desc := "([J[J)V" } : Jvm.MethodName) prog_2_method_5_code (3 : Nat) (Option.none : Option Jvm.ClassFile.FieldType)) ∈ kt_all := kt_mem (i := 324) (by decide +kernel) (by decide +kernel)
theorem kt_w305 : (Jvm.Cond.methodLink "KeyCurve$Curve" (102 : Nat) ({ cls := "KeyCurve$Prime", name := "sum", desc := "([J[J[J)V" } : Jvm.MethodName)) ∈ kt_all := kt_mem (i := 327) (by decide +kernel) (by decide +kernel)
theorem kt_w306 : (Jvm.Cond.methodLink "KeyCurveLaw" (60 : Nat) ({ cls := "KeyCurve", name := "lift", desc := "(IIZ)Z" } : Jvm.MethodName)) ∈ kt_all := kt_mem (i := 328) (by decide +kernel) (by decide +kernel)
theorem kt_w307 : (Jvm.Cond.instanceMethod ({ cls := "KeyCurve", name := "lift", desc := "(IIZ)Z" } : Jvm.MethodName)) ∈ kt_all := kt_mem (i := 329) (by decide +kernel) (by decide +kernel)
theorem kt_w308 : (Jvm.Cond.selects "KeyCurve" ({ cls := "KeyCurve", name := "lift", desc := "(IIZ)Z" } : Jvm.MethodName) ({ cls := "KeyCurve", name := "lift", desc := "(IIZ)Z" } : Jvm.MethodName)) ∈ kt_all := kt_mem (i := 330) (by decide +kernel) (by decide +kernel)
theorem kt_w309 : (Jvm.Cond.code ({ cls := "KeyCurve", name := "lift", desc := "(IIZ)Z" } : Jvm.MethodName) prog_1_method_12_code (4 : Nat) (Option.some Jvm.ClassFile.FieldType.boolean)) ∈ kt_all := kt_mem (i := 331) (by decide +kernel) (by decide +kernel)
theorem kt_w310 : (Jvm.Cond.methodLink "KeyCurve" (103 : Nat) ({ cls := "KeyCurve$Curve", name := "findByX", desc := "(LKeyCurve$Spot;[JZ)Z" } : Jvm.MethodName)) ∈ kt_all := kt_mem (i := 332) (by decide +kernel) (by decide +kernel)
theorem kt_w311 : (Jvm.Cond.instanceMethod ({ cls := "KeyCurve$Curve", name := "findByX", desc := "(LKeyCurve$Spot;[JZ)Z" } : Jvm.MethodName)) ∈ kt_all := kt_mem (i := 333) (by decide +kernel) (by decide +kernel)
theorem kt_w312 : (Jvm.Cond.selects "KeyCurve$Curve" ({ cls := "KeyCurve$Curve", name := "findByX", desc := "(LKeyCurve$Spot;[JZ)Z" } : Jvm.MethodName) ({ cls := "KeyCurve$Curve", name := "findByX", desc := "(LKeyCurve$Spot;[JZ)Z" } : Jvm.MethodName)) ∈ kt_all := kt_mem (i := 334) (by decide +kernel) (by decide +kernel)
theorem kt_w313 : (Jvm.Cond.code ({ cls := "KeyCurve$Curve", name := "findByX", desc := "(LKeyCurve$Spot;[JZ)Z" } : Jvm.MethodName) prog_2_method_4_code (4 : Nat) (Option.some Jvm.ClassFile.FieldType.boolean)) ∈ kt_all := kt_mem (i := 335) (by decide +kernel) (by decide +kernel)
theorem kt_w314 : (Jvm.Cond.methodLink "KeyCurve$Curve" (91 : Nat) ({ cls := "KeyCurve$Curve", name := "evenRoot", desc := "([J[J)Z" } : Jvm.MethodName)) ∈ kt_all := kt_mem (i := 336) (by decide +kernel) (by decide +kernel)
theorem kt_w315 : (Jvm.Cond.methodLink "KeyCurve$Curve" (94 : Nat) ({ cls := "KeyCurve$Spot", name := "become", desc := "([J[J)V" } : Jvm.MethodName)) ∈ kt_all := kt_mem (i := 337) (by decide +kernel) (by decide +kernel)
theorem kt_w316 : (Jvm.Cond.methodLink "KeyCurveLaw" (64 : Nat) ({ cls := "KeyCurve", name := "plus", desc := "(III)V" } : Jvm.MethodName)) ∈ kt_all := kt_mem (i := 338) (by decide +kernel) (by decide +kernel)
theorem kt_w317 : (Jvm.Cond.instanceMethod ({ cls := "KeyCurve", name := "plus", desc := "(III)V" } : Jvm.MethodName)) ∈ kt_all := kt_mem (i := 339) (by decide +kernel) (by decide +kernel)
theorem kt_w318 : (Jvm.Cond.selects "KeyCurve" ({ cls := "KeyCurve", name := "plus", desc := "(III)V" } : Jvm.MethodName) ({ cls := "KeyCurve", name := "plus", desc := "(III)V" } : Jvm.MethodName)) ∈ kt_all := kt_mem (i := 340) (by decide +kernel) (by decide +kernel)
theorem kt_w319 : (Jvm.Cond.code ({ cls := "KeyCurve", name := "plus", desc := "(III)V" } : Jvm.MethodName) prog_1_method_13_code (4 : Nat) (Option.none : Option Jvm.ClassFile.FieldType)) ∈ kt_all := kt_mem (i := 341) (by decide +kernel) (by decide +kernel)
theorem kt_w320 : (Jvm.Cond.methodLink "KeyCurve" (107 : Nat) ({ cls := "KeyCurve$Curve", name := "start", desc := "()V" } : Jvm.MethodName)) ∈ kt_all := kt_mem (i := 342) (by decide +kernel) (by decide +kernel)
theorem kt_w321 : (Jvm.Cond.instanceMethod ({ cls := "KeyCurve$Curve", name := "start", desc := "()V" } : Jvm.MethodName)) ∈ kt_all := kt_mem (i := 343) (by decide +kernel) (by decide +kernel)
theorem kt_w322 : (Jvm.Cond.selects "KeyCurve$Curve" ({ cls := "KeyCurve$Curve", name := "start", desc := "()V" } : Jvm.MethodName) ({ cls := "KeyCurve$Curve", name := "start", desc := "()V" } : Jvm.MethodName)) ∈ kt_all := kt_mem (i := 344) (by decide +kernel) (by decide +kernel)
theorem kt_w323 : (Jvm.Cond.code ({ cls := "KeyCurve$Curve", name := "start", desc := "()V" } : Jvm.MethodName) prog_2_method_6_code (2 : Nat) (Option.none : Option Jvm.ClassFile.FieldType)) ∈ kt_all := kt_mem (i := 345) (by decide +kernel) (by decide +kernel)
theorem kt_w325 : (Jvm.Cond.methodLink "KeyCurve" (110 : Nat) ({ cls := "KeyCurve$Curve", name := "join", desc := "(LKeyCurve$Spot;)V" } : Jvm.MethodName)) ∈ kt_all := kt_mem (i := 347) (by decide +kernel) (by decide +kernel)
theorem kt_w326 : (Jvm.Cond.instanceMethod ({ cls := "KeyCurve$Curve", name := "join", desc := "(LKeyCurve$Spot;)V" } : Jvm.MethodName)) ∈ kt_all := kt_mem (i := 348) (by decide +kernel) (by decide +kernel)
theorem kt_w327 : (Jvm.Cond.selects "KeyCurve$Curve" ({ cls := "KeyCurve$Curve", name := "join", desc := "(LKeyCurve$Spot;)V" } : Jvm.MethodName) ({ cls := "KeyCurve$Curve", name := "join", desc := "(LKeyCurve$Spot;)V" } : Jvm.MethodName)) ∈ kt_all := kt_mem (i := 349) (by decide +kernel) (by decide +kernel)
theorem kt_w328 : (Jvm.Cond.code ({ cls := "KeyCurve$Curve", name := "join", desc := "(LKeyCurve$Spot;)V" } : Jvm.MethodName) prog_2_method_8_code (2 : Nat) (Option.none : Option Jvm.ClassFile.FieldType)) ∈ kt_all := kt_mem (i := 350) (by decide +kernel) (by decide +kernel)
theorem kt_w329 : (Jvm.Cond.methodLink "KeyCurve$Curve" (126 : Nat) ({ cls := "KeyCurve$Words", name := "isZero", desc := "([J)Z" } : Jvm.MethodName)) ∈ kt_all := kt_mem (i := 351) (by decide +kernel) (by decide +kernel)
theorem kt_w330 : (Jvm.Cond.methodLink "KeyCurve$Curve" (131 : Nat) ({ cls := "KeyCurve$Curve", name := "measureLine", desc := "(LKeyCurve$Spot;)V" } : Jvm.MethodName)) ∈ kt_all := kt_mem (i := 352) (by decide +kernel) (by decide +kernel)
theorem kt_w332 : (Jvm.Cond.instanceMethod ({ cls := "KeyCurve$Curve", name := "measureLine", desc := "(LKeyCurve$Spot;)V" } : Jvm.MethodName)) ∈ kt_all := kt_mem (i := 354) (by decide +kernel) (by decide +kernel)
theorem kt_w333 : (Jvm.Cond.code ({ cls := "KeyCurve$Curve", name := "measureLine", desc := "(LKeyCurve$Spot;)V" } : Jvm.MethodName) prog_2_method_9_code (2 : Nat) (Option.none : Option Jvm.ClassFile.FieldType)) ∈ kt_all := kt_mem (i := 355) (by decide +kernel) (by decide +kernel)
theorem kt_w334 : (Jvm.Cond.methodLink "KeyCurve$Curve" (134 : Nat) ({ cls := "KeyCurve$Curve", name := "followLine", desc := "()V" } : Jvm.MethodName)) ∈ kt_all := kt_mem (i := 356) (by decide +kernel) (by decide +kernel)
theorem kt_w336 : (Jvm.Cond.instanceMethod ({ cls := "KeyCurve$Curve", name := "followLine", desc := "()V" } : Jvm.MethodName)) ∈ kt_all := kt_mem (i := 358) (by decide +kernel) (by decide +kernel)
theorem kt_w337 : (Jvm.Cond.code ({ cls := "KeyCurve$Curve", name := "followLine", desc := "()V" } : Jvm.MethodName) prog_2_method_10_code (1 : Nat) (Option.none : Option Jvm.ClassFile.FieldType)) ∈ kt_all := kt_mem (i := 359) (by decide +kernel) (by decide +kernel)
theorem kt_w338 : (Jvm.Cond.methodLink "KeyCurve$Curve" (111 : Nat) ({ cls := "KeyCurve$Curve", name := "twice", desc := "()V" } : Jvm.MethodName)) ∈ kt_all := kt_mem (i := 360) (by decide +kernel) (by decide +kernel)
theorem kt_w340 : (Jvm.Cond.instanceMethod ({ cls := "KeyCurve$Curve", name := "twice", desc := "()V" } : Jvm.MethodName)) ∈ kt_all := kt_mem (i := 362) (by decide +kernel) (by decide +kernel)
theorem kt_w341 : (Jvm.Cond.code ({ cls := "KeyCurve$Curve", name := "twice", desc := "()V" } : Jvm.MethodName) prog_2_method_11_code (1 : Nat) (Option.none : Option Jvm.ClassFile.FieldType)) ∈ kt_all := kt_mem (i := 363) (by decide +kernel) (by decide +kernel)
theorem kt_w342 : (Jvm.Cond.methodLink "KeyCurve$Curve" (108 : Nat) ({ cls := "KeyCurve$Curve", name := "start", desc := "()V" } : Jvm.MethodName)) ∈ kt_all := kt_mem (i := 364) (by decide +kernel) (by decide +kernel)
theorem kt_w343 : (Jvm.Cond.methodLink "KeyCurve" (114 : Nat) ({ cls := "KeyCurve$Curve", name := "finish", desc := "(LKeyCurve$Spot;)V" } : Jvm.MethodName)) ∈ kt_all := kt_mem (i := 365) (by decide +kernel) (by decide +kernel)
theorem kt_w344 : (Jvm.Cond.instanceMethod ({ cls := "KeyCurve$Curve", name := "finish", desc := "(LKeyCurve$Spot;)V" } : Jvm.MethodName)) ∈ kt_all := kt_mem (i := 366) (by decide +kernel) (by decide +kernel)
theorem kt_w345 : (Jvm.Cond.selects "KeyCurve$Curve" ({ cls := "KeyCurve$Curve", name := "finish", desc := "(LKeyCurve$Spot;)V" } : Jvm.MethodName) ({ cls := "KeyCurve$Curve", name := "finish", desc := "(LKeyCurve$Spot;)V" } : Jvm.MethodName)) ∈ kt_all := kt_mem (i := 367) (by decide +kernel) (by decide +kernel)
theorem kt_w346 : (Jvm.Cond.code ({ cls := "KeyCurve$Curve", name := "finish", desc := "(LKeyCurve$Spot;)V" } : Jvm.MethodName) prog_2_method_12_code (2 : Nat) (Option.none : Option Jvm.ClassFile.FieldType)) ∈ kt_all := kt_mem (i := 368) (by decide +kernel) (by decide +kernel)
theorem kt_w347 : (Jvm.Cond.methodLink "KeyCurve$Curve" (137 : Nat) ({ cls := "KeyCurve$Prime", name := "inverse", desc := "([J[J)Z" } : Jvm.MethodName)) ∈ kt_all := kt_mem (i := 369) (by decide +kernel) (by decide +kernel)
theorem kt_w348 : (Jvm.Cond.methodLink "KeyCurveLaw" (69 : Nat) ({ cls := "KeyCurve", name := "times", desc := "(III)V" } : Jvm.MethodName)) ∈ kt_all := kt_mem (i := 370) (by decide +kernel) (by decide +kernel)
theorem kt_w349 : (Jvm.Cond.instanceMethod ({ cls := "KeyCurve", name := "times", desc := "(III)V" } : Jvm.MethodName)) ∈ kt_all := kt_mem (i := 371) (by decide +kernel) (by decide +kernel)
theorem kt_w350 : (Jvm.Cond.selects "KeyCurve" ({ cls := "KeyCurve", name := "times", desc := "(III)V" } : Jvm.MethodName) ({ cls := "KeyCurve", name := "times", desc := "(III)V" } : Jvm.MethodName)) ∈ kt_all := kt_mem (i := 372) (by decide +kernel) (by decide +kernel)
theorem kt_w351 : (Jvm.Cond.code ({ cls := "KeyCurve", name := "times", desc := "(III)V" } : Jvm.MethodName) prog_1_method_14_code (4 : Nat) (Option.none : Option Jvm.ClassFile.FieldType)) ∈ kt_all := kt_mem (i := 373) (by decide +kernel) (by decide +kernel)
theorem kt_w352 : (Jvm.Cond.methodLink "KeyCurve" (117 : Nat) ({ cls := "KeyCurve$Curve", name := "startMultiple", desc := "(LKeyCurve$Spot;[J)V" } : Jvm.MethodName)) ∈ kt_all := kt_mem (i := 374) (by decide +kernel) (by decide +kernel)
theorem kt_w353 : (Jvm.Cond.instanceMethod ({ cls := "KeyCurve$Curve", name := "startMultiple", desc := "(LKeyCurve$Spot;[J)V" } : Jvm.MethodName)) ∈ kt_all := kt_mem (i := 375) (by decide +kernel) (by decide +kernel)
theorem kt_w354 : (Jvm.Cond.selects "KeyCurve$Curve" ({ cls := "KeyCurve$Curve", name := "startMultiple", desc := "(LKeyCurve$Spot;[J)V" } : Jvm.MethodName) ({ cls := "KeyCurve$Curve", name := "startMultiple", desc := "(LKeyCurve$Spot;[J)V" } : Jvm.MethodName)) ∈ kt_all := kt_mem (i := 376) (by decide +kernel) (by decide +kernel)
theorem kt_w355 : (Jvm.Cond.code ({ cls := "KeyCurve$Curve", name := "startMultiple", desc := "(LKeyCurve$Spot;[J)V" } : Jvm.MethodName) prog_2_method_7_code (4 : Nat) (Option.none : Option Jvm.ClassFile.FieldType)) ∈ kt_all := kt_mem (i := 377) (by decide +kernel) (by decide +kernel)
theorem kt_w356 : (Jvm.Cond.methodLink "KeyCurve$Curve" (114 : Nat) ({ cls := "KeyCurve$Words", name := "hasBit", desc := "([JI)Z" } : Jvm.MethodName)) ∈ kt_all := kt_mem (i := 378) (by decide +kernel) (by decide +kernel)
theorem kt_w357 : (Jvm.Cond.methodLink "KeyCurve$Curve" (118 : Nat) ({ cls := "KeyCurve$Curve", name := "join", desc := "(LKeyCurve$Spot;)V" } : Jvm.MethodName)) ∈ kt_all := kt_mem (i := 379) (by decide +kernel) (by decide +kernel)
theorem kt_w358 : (Jvm.Cond.methodLink "KeyCurveLaw" (73 : Nat) ({ cls := "KeyCurve", name := "take", desc := "(IIZ)Z" } : Jvm.MethodName)) ∈ kt_all := kt_mem (i := 380) (by decide +kernel) (by decide +kernel)
theorem kt_w359 : (Jvm.Cond.instanceMethod ({ cls := "KeyCurve", name := "take", desc := "(IIZ)Z" } : Jvm.MethodName)) ∈ kt_all := kt_mem (i := 381) (by decide +kernel) (by decide +kernel)
theorem kt_w360 : (Jvm.Cond.selects "KeyCurve" ({ cls := "KeyCurve", name := "take", desc := "(IIZ)Z" } : Jvm.MethodName) ({ cls := "KeyCurve", name := "take", desc := "(IIZ)Z" } : Jvm.MethodName)) ∈ kt_all := kt_mem (i := 382) (by decide +kernel) (by decide +kernel)
theorem kt_w361 : (Jvm.Cond.code ({ cls := "KeyCurve", name := "take", desc := "(IIZ)Z" } : Jvm.MethodName) prog_1_method_15_code (5 : Nat) (Option.some Jvm.ClassFile.FieldType.boolean)) ∈ kt_all := kt_mem (i := 383) (by decide +kernel) (by decide +kernel)
theorem kt_w362 : (Jvm.Cond.methodLink "KeyCurve" (127 : Nat) ({ cls := "KeyCurve$Words", name := "copy", desc := "([J[J)V" } : Jvm.MethodName)) ∈ kt_all := kt_mem (i := 384) (by decide +kernel) (by decide +kernel)
theorem kt_w363 : (Jvm.Cond.methodLink "KeyCurveLaw" (77 : Nat) ({ cls := "KeyCurve", name := "same", desc := "(II)Z" } : Jvm.MethodName)) ∈ kt_all := kt_mem (i := 385) (by decide +kernel) (by decide +kernel)
theorem kt_w364 : (Jvm.Cond.instanceMethod ({ cls := "KeyCurve", name := "same", desc := "(II)Z" } : Jvm.MethodName)) ∈ kt_all := kt_mem (i := 386) (by decide +kernel) (by decide +kernel)
theorem kt_w365 : (Jvm.Cond.selects "KeyCurve" ({ cls := "KeyCurve", name := "same", desc := "(II)Z" } : Jvm.MethodName) ({ cls := "KeyCurve", name := "same", desc := "(II)Z" } : Jvm.MethodName)) ∈ kt_all := kt_mem (i := 387) (by decide +kernel) (by decide +kernel)
theorem kt_w366 : (Jvm.Cond.code ({ cls := "KeyCurve", name := "same", desc := "(II)Z" } : Jvm.MethodName) prog_1_method_16_code (5 : Nat) (Option.some Jvm.ClassFile.FieldType.boolean)) ∈ kt_all := kt_mem (i := 388) (by decide +kernel) (by decide +kernel)
theorem kt_w367 : (Jvm.Cond.methodLink "KeyCurve" (132 : Nat) ({ cls := "KeyCurve$Words", name := "areEqual", desc := "([J[J)Z" } : Jvm.MethodName)) ∈ kt_all := kt_mem (i := 389) (by decide +kernel) (by decide +kernel)
theorem kt_w368 : (Jvm.Cond.classLink "KeyCurveLaw" (10 : Nat) "KeyCurveModel") ∈ kt_all := kt_mem (i := 390) (by decide +kernel) (by decide +kernel)
theorem kt_w369 : (Jvm.Cond.instantiable "KeyCurveModel" (20 : Nat)) ∈ kt_all := kt_mem (i := 391) (by decide +kernel) (by decide +kernel)
theorem kt_w370 : (Jvm.Cond.methodLink "KeyCurveLaw" (12 : Nat) ({ cls := "KeyCurveModel", name := "<init>", desc := "()V" } : Jvm.MethodName)) ∈ kt_all := kt_mem (i := 392) (by decide +kernel) (by decide +kernel)
theorem kt_w371 : (Jvm.Cond.instanceMethod ({ cls := "KeyCurveModel", name := "<init>", desc := "()V" } : Jvm.MethodName)) ∈ kt_all := kt_mem (i := 393) (by decide +kernel) (by decide +kernel)
theorem kt_w372 : (Jvm.Cond.code ({ cls := "KeyCurveModel", name := "<init>", desc := "()V" } : Jvm.MethodName) prog_7_method_1_code (1 : Nat) (Option.none : Option Jvm.ClassFile.FieldType)) ∈ kt_all := kt_mem (i := 394) (by decide +kernel) (by decide +kernel)
theorem kt_w373 : (Jvm.Cond.methodLink "KeyCurveModel" (1 : Nat) ({ cls := "java/lang/Object", name := "<init>", desc := "()V" } : Jvm.MethodName)) ∈ kt_all := kt_mem (i := 395) (by decide +kernel) (by decide +kernel)
theorem kt_w374 : (Jvm.Cond.classLink "KeyCurveModel" (7 : Nat) "[[I") ∈ kt_all := kt_mem (i := 396) (by decide +kernel) (by decide +kernel)
theorem kt_w376 : (Jvm.Cond.fieldLink "KeyCurveModel" (9 : Nat) "KeyCurveModel" "register" "[[I") ∈ kt_all := kt_mem (i := 398) (by decide +kernel) (by decide +kernel)
theorem kt_w377 : (Jvm.Cond.fieldLink "KeyCurveModel" (14 : Nat) "KeyCurveModel" "px" "[[I") ∈ kt_all := kt_mem (i := 399) (by decide +kernel) (by decide +kernel)
theorem kt_w378 : (Jvm.Cond.fieldLink "KeyCurveModel" (17 : Nat) "KeyCurveModel" "py" "[[I") ∈ kt_all := kt_mem (i := 400) (by decide +kernel) (by decide +kernel)
theorem kt_w379 : (Jvm.Cond.fieldLink "KeyCurveModel" (20 : Nat) "KeyCurveModel" "isNone" "[Z") ∈ kt_all := kt_mem (i := 401) (by decide +kernel) (by decide +kernel)
theorem kt_w380 : (Jvm.Cond.fieldLink "KeyCurveModel" (24 : Nat) "KeyCurveModel" "one" "[I") ∈ kt_all := kt_mem (i := 402) (by decide +kernel) (by decide +kernel)
theorem kt_w381 : (Jvm.Cond.fieldLink "KeyCurveModel" (28 : Nat) "KeyCurveModel" "rest" "[I") ∈ kt_all := kt_mem (i := 403) (by decide +kernel) (by decide +kernel)
theorem kt_w382 : (Jvm.Cond.fieldLink "KeyCurveModel" (31 : Nat) "KeyCurveModel" "uu" "[I") ∈ kt_all := kt_mem (i := 404) (by decide +kernel) (by decide +kernel)
theorem kt_w383 : (Jvm.Cond.fieldLink "KeyCurveModel" (34 : Nat) "KeyCurveModel" "vv" "[I") ∈ kt_all := kt_mem (i := 405) (by decide +kernel) (by decide +kernel)
theorem kt_w384 : (Jvm.Cond.fieldLink "KeyCurveModel" (37 : Nat) "KeyCurveModel" "product" "[I") ∈ kt_all := kt_mem (i := 406) (by decide +kernel) (by decide +kernel)
theorem kt_w385 : (Jvm.Cond.fieldLink "KeyCurveModel" (40 : Nat) "KeyCurveModel" "slope" "[I") ∈ kt_all := kt_mem (i := 407) (by decide +kernel) (by decide +kernel)
theorem kt_w386 : (Jvm.Cond.fieldLink "KeyCurveModel" (43 : Nat) "KeyCurveModel" "t1" "[I") ∈ kt_all := kt_mem (i := 408) (by decide +kernel) (by decide +kernel)
theorem kt_w387 : (Jvm.Cond.fieldLink "KeyCurveModel" (46 : Nat) "KeyCurveModel" "t2" "[I") ∈ kt_all := kt_mem (i := 409) (by decide +kernel) (by decide +kernel)
theorem kt_w388 : (Jvm.Cond.fieldLink "KeyCurveModel" (49 : Nat) "KeyCurveModel" "t3" "[I") ∈ kt_all := kt_mem (i := 410) (by decide +kernel) (by decide +kernel)
theorem kt_w389 : (Jvm.Cond.fieldLink "KeyCurveModel" (52 : Nat) "KeyCurveModel" "rx" "[I") ∈ kt_all := kt_mem (i := 411) (by decide +kernel) (by decide +kernel)
theorem kt_w390 : (Jvm.Cond.fieldLink "KeyCurveModel" (55 : Nat) "KeyCurveModel" "ry" "[I") ∈ kt_all := kt_mem (i := 412) (by decide +kernel) (by decide +kernel)
theorem kt_w391 : (Jvm.Cond.fieldLink "KeyCurveModel" (58 : Nat) "KeyCurveModel" "na" "[I") ∈ kt_all := kt_mem (i := 413) (by decide +kernel) (by decide +kernel)
theorem kt_w392 : (Jvm.Cond.fieldLink "KeyCurveModel" (61 : Nat) "KeyCurveModel" "nb" "[I") ∈ kt_all := kt_mem (i := 414) (by decide +kernel) (by decide +kernel)
theorem kt_w393 : (Jvm.Cond.fieldLink "KeyCurveModel" (118 : Nat) "KeyCurveModel" "isFar" "Z") ∈ kt_all := kt_mem (i := 415) (by decide +kernel) (by decide +kernel)
theorem kt_w394 : (Jvm.Cond.fieldLink "KeyCurveModel" (64 : Nat) "KeyCurveModel" "ia" "[I") ∈ kt_all := kt_mem (i := 416) (by decide +kernel) (by decide +kernel)
theorem kt_w395 : (Jvm.Cond.fieldLink "KeyCurveModel" (67 : Nat) "KeyCurveModel" "ib" "[I") ∈ kt_all := kt_mem (i := 417) (by decide +kernel) (by decide +kernel)
theorem kt_w396 : (Jvm.Cond.laysFinal "KeyCurveModel" "KeyCurveModel" "register" "[[I") ∈ kt_all := kt_mem (i := 418) (by decide +kernel) (by decide +kernel)
theorem kt_w398 : (Jvm.Cond.laysFinal "KeyCurveModel" "KeyCurveModel" "px" "[[I") ∈ kt_all := kt_mem (i := 420) (by decide +kernel) (by decide +kernel)
theorem kt_w400 : (Jvm.Cond.laysFinal "KeyCurveModel" "KeyCurveModel" "py" "[[I") ∈ kt_all := kt_mem (i := 422) (by decide +kernel) (by decide +kernel)
theorem kt_w402 : (Jvm.Cond.laysFinal "KeyCurveModel" "KeyCurveModel" "isNone" "[Z") ∈ kt_all := kt_mem (i := 424) (by decide +kernel) (by decide +kernel)
theorem kt_w404 : (Jvm.Cond.laysFinal "KeyCurveModel" "KeyCurveModel" "one" "[I") ∈ kt_all := kt_mem (i := 426) (by decide +kernel) (by decide +kernel)
theorem kt_w406 : (Jvm.Cond.laysFinal "KeyCurveModel" "KeyCurveModel" "rest" "[I") ∈ kt_all := kt_mem (i := 428) (by decide +kernel) (by decide +kernel)
theorem kt_w408 : (Jvm.Cond.laysFinal "KeyCurveModel" "KeyCurveModel" "uu" "[I") ∈ kt_all := kt_mem (i := 430) (by decide +kernel) (by decide +kernel)
theorem kt_w410 : (Jvm.Cond.laysFinal "KeyCurveModel" "KeyCurveModel" "vv" "[I") ∈ kt_all := kt_mem (i := 432) (by decide +kernel) (by decide +kernel)
theorem kt_w412 : (Jvm.Cond.laysFinal "KeyCurveModel" "KeyCurveModel" "product" "[I") ∈ kt_all := kt_mem (i := 434) (by decide +kernel) (by decide +kernel)
theorem kt_w414 : (Jvm.Cond.laysFinal "KeyCurveModel" "KeyCurveModel" "slope" "[I") ∈ kt_all := kt_mem (i := 436) (by decide +kernel) (by decide +kernel)
theorem kt_w416 : (Jvm.Cond.laysFinal "KeyCurveModel" "KeyCurveModel" "t1" "[I") ∈ kt_all := kt_mem (i := 438) (by decide +kernel) (by decide +kernel)
theorem kt_w418 : (Jvm.Cond.laysFinal "KeyCurveModel" "KeyCurveModel" "t2" "[I") ∈ kt_all := kt_mem (i := 440) (by decide +kernel) (by decide +kernel)
theorem kt_w420 : (Jvm.Cond.laysFinal "KeyCurveModel" "KeyCurveModel" "t3" "[I") ∈ kt_all := kt_mem (i := 442) (by decide +kernel) (by decide +kernel)
theorem kt_w422 : (Jvm.Cond.laysFinal "KeyCurveModel" "KeyCurveModel" "rx" "[I") ∈ kt_all := kt_mem (i := 444) (by decide +kernel) (by decide +kernel)
theorem kt_w424 : (Jvm.Cond.laysFinal "KeyCurveModel" "KeyCurveModel" "ry" "[I") ∈ kt_all := kt_mem (i := 446) (by decide +kernel) (by decide +kernel)
theorem kt_w426 : (Jvm.Cond.laysFinal "KeyCurveModel" "KeyCurveModel" "na" "[I") ∈ kt_all := kt_mem (i := 448) (by decide +kernel) (by decide +kernel)
theorem kt_w428 : (Jvm.Cond.laysFinal "KeyCurveModel" "KeyCurveModel" "nb" "[I") ∈ kt_all := kt_mem (i := 450) (by decide +kernel) (by decide +kernel)
theorem kt_w430 : (Jvm.Cond.lays "KeyCurveModel" "KeyCurveModel" "isFar" "Z") ∈ kt_all := kt_mem (i := 452) (by decide +kernel) (by decide +kernel)
theorem kt_w432 : (Jvm.Cond.laysFinal "KeyCurveModel" "KeyCurveModel" "ia" "[I") ∈ kt_all := kt_mem (i := 454) (by decide +kernel) (by decide +kernel)
theorem kt_w434 : (Jvm.Cond.laysFinal "KeyCurveModel" "KeyCurveModel" "ib" "[I") ∈ kt_all := kt_mem (i := 456) (by decide +kernel) (by decide +kernel)
theorem kt_w437 : (Jvm.Cond.arrayClass Jvm.ClassFile.FieldType.int) ∈ kt_all := kt_mem (i := 459) (by decide +kernel) (by decide +kernel)
theorem kt_w438 : (Jvm.Cond.arrayClass Jvm.ClassFile.FieldType.boolean) ∈ kt_all := kt_mem (i := 460) (by decide +kernel) (by decide +kernel)
theorem kt_w439 : (Jvm.Cond.methodLink "KeyCurveLaw" (17 : Nat) ({ cls := "KeyCurveModel", name := "set", desc := "(III)I" } : Jvm.MethodName)) ∈ kt_all := kt_mem (i := 461) (by decide +kernel) (by decide +kernel)
theorem kt_w440 : (Jvm.Cond.instanceMethod ({ cls := "KeyCurveModel", name := "set", desc := "(III)I" } : Jvm.MethodName)) ∈ kt_all := kt_mem (i := 462) (by decide +kernel) (by decide +kernel)
theorem kt_w441 : (Jvm.Cond.selects "KeyCurveModel" ({ cls := "KeyCurveModel", name := "set", desc := "(III)I" } : Jvm.MethodName) ({ cls := "KeyCurveModel", name := "set", desc := "(III)I" } : Jvm.MethodName)) ∈ kt_all := kt_mem (i := 463) (by decide +kernel) (by decide +kernel)
theorem kt_w442 : (Jvm.Cond.code ({ cls := "KeyCurveModel", name := "set", desc := "(III)I" } : Jvm.MethodName) prog_7_method_20_code (5 : Nat) (Option.some Jvm.ClassFile.FieldType.int)) ∈ kt_all := kt_mem (i := 464) (by decide +kernel) (by decide +kernel)
theorem kt_w443 : (Jvm.Cond.methodLink "KeyCurveLaw" (22 : Nat) ({ cls := "KeyCurveModel", name := "get", desc := "(II)I" } : Jvm.MethodName)) ∈ kt_all := kt_mem (i := 465) (by decide +kernel) (by decide +kernel)
theorem kt_w444 : (Jvm.Cond.instanceMethod ({ cls := "KeyCurveModel", name := "get", desc := "(II)I" } : Jvm.MethodName)) ∈ kt_all := kt_mem (i := 466) (by decide +kernel) (by decide +kernel)
theorem kt_w445 : (Jvm.Cond.selects "KeyCurveModel" ({ cls := "KeyCurveModel", name := "get", desc := "(II)I" } : Jvm.MethodName) ({ cls := "KeyCurveModel", name := "get", desc := "(II)I" } : Jvm.MethodName)) ∈ kt_all := kt_mem (i := 467) (by decide +kernel) (by decide +kernel)
theorem kt_w446 : (Jvm.Cond.code ({ cls := "KeyCurveModel", name := "get", desc := "(II)I" } : Jvm.MethodName) prog_7_method_21_code (3 : Nat) (Option.some Jvm.ClassFile.FieldType.int)) ∈ kt_all := kt_mem (i := 468) (by decide +kernel) (by decide +kernel)
theorem kt_w447 : (Jvm.Cond.methodLink "KeyCurveLaw" (27 : Nat) ({ cls := "KeyCurveModel", name := "add", desc := "(IIIZ)V" } : Jvm.MethodName)) ∈ kt_all := kt_mem (i := 469) (by decide +kernel) (by decide +kernel)
theorem kt_w448 : (Jvm.Cond.instanceMethod ({ cls := "KeyCurveModel", name := "add", desc := "(IIIZ)V" } : Jvm.MethodName)) ∈ kt_all := kt_mem (i := 470) (by decide +kernel) (by decide +kernel)
theorem kt_w449 : (Jvm.Cond.selects "KeyCurveModel" ({ cls := "KeyCurveModel", name := "add", desc := "(IIIZ)V" } : Jvm.MethodName) ({ cls := "KeyCurveModel", name := "add", desc := "(IIIZ)V" } : Jvm.MethodName)) ∈ kt_all := kt_mem (i := 471) (by decide +kernel) (by decide +kernel)
theorem kt_w450 : (Jvm.Cond.code ({ cls := "KeyCurveModel", name := "add", desc := "(IIIZ)V" } : Jvm.MethodName) prog_7_method_22_code (6 : Nat) (Option.none : Option Jvm.ClassFile.FieldType)) ∈ kt_all := kt_mem (i := 472) (by decide +kernel) (by decide +kernel)
theorem kt_w451 : (Jvm.Cond.fieldLink "KeyCurveModel" (115 : Nat) "KeyCurveModel" "N" "[I") ∈ kt_all := kt_mem (i := 473) (by decide +kernel) (by decide +kernel)
theorem kt_w453 : (Jvm.Cond.fieldLink "KeyCurveModel" (90 : Nat) "KeyCurveModel" "P" "[I") ∈ kt_all := kt_mem (i := 475) (by decide +kernel) (by decide +kernel)
theorem kt_w455 : (Jvm.Cond.methodLink "KeyCurveModel" (138 : Nat) ({ cls := "KeyCurveModel", name := "below", desc := "([IIZ)V" } : Jvm.MethodName)) ∈ kt_all := kt_mem (i := 477) (by decide +kernel) (by decide +kernel)
theorem kt_w457 : (Jvm.Cond.instanceMethod ({ cls := "KeyCurveModel", name := "below", desc := "([IIZ)V" } : Jvm.MethodName)) ∈ kt_all := kt_mem (i := 479) (by decide +kernel) (by decide +kernel)
theorem kt_w458 : (Jvm.Cond.code ({ cls := "KeyCurveModel", name := "below", desc := "([IIZ)V" } : Jvm.MethodName) prog_7_method_18_code (5 : Nat) (Option.none : Option Jvm.ClassFile.FieldType)) ∈ kt_all := kt_mem (i := 480) (by decide +kernel) (by decide +kernel)
theorem kt_w459 : (Jvm.Cond.methodLink "KeyCurveModel" (104 : Nat) ({ cls := "KeyCurveModel", name := "copy", desc := "([I[I)V" } : Jvm.MethodName)) ∈ kt_all := kt_mem (i := 481) (by decide +kernel) (by decide +kernel)
theorem kt_w460 : (Jvm.Cond.static ({ cls := "KeyCurveModel", name := "copy", desc := "([I[I)V" } : Jvm.MethodName)) ∈ kt_all := kt_mem (i := 482) (by decide +kernel) (by decide +kernel)
theorem kt_w461 : (Jvm.Cond.code ({ cls := "KeyCurveModel", name := "copy", desc := "([I[I)V" } : Jvm.MethodName) prog_7_method_7_code (2 : Nat) (Option.none : Option Jvm.ClassFile.FieldType)) ∈ kt_all := kt_mem (i := 483) (by decide +kernel) (by decide +kernel)
theorem kt_w462 : (Jvm.Cond.methodLink "KeyCurveModel" (78 : Nat) ({ cls := "java/lang/System", name := "arraycopy", desc := "(Ljava/lang/Object;ILjava/lang/Object;II)V" } : Jvm.MethodName)) ∈ kt_all := kt_mem (i := 484) (by decide +kernel) (by decide +kernel)
theorem kt_w463 : (Jvm.Cond.methodLink "KeyCurveModel" (93 : Nat) ({ cls := "KeyCurveModel", name := "compare", desc := "([I[I)I" } : Jvm.MethodName)) ∈ kt_all := kt_mem (i := 485) (by decide +kernel) (by decide +kernel)
theorem kt_w464 : (Jvm.Cond.static ({ cls := "KeyCurveModel", name := "compare", desc := "([I[I)I" } : Jvm.MethodName)) ∈ kt_all := kt_mem (i := 486) (by decide +kernel) (by decide +kernel)
theorem kt_w465 : (Jvm.Cond.code ({ cls := "KeyCurveModel", name := "compare", desc := "([I[I)I" } : Jvm.MethodName) prog_7_method_3_code (3 : Nat) (Option.some Jvm.ClassFile.FieldType.int)) ∈ kt_all := kt_mem (i := 487) (by decide +kernel) (by decide +kernel)
theorem kt_w466 : (Jvm.Cond.methodLink "KeyCurveModel" (70 : Nat) ({ cls := "java/lang/Integer", name := "compareUnsigned", desc := "(II)I" } : Jvm.MethodName)) ∈ kt_all := kt_mem (i := 488) (by decide +kernel) (by decide +kernel)
theorem kt_w467 : (Jvm.Cond.static ({ cls := "java/lang/Integer", name := "compareUnsigned", desc := "(II)I" } : Jvm.MethodName)) ∈ kt_all := kt_mem (i := 489) (by decide +kernel) (by decide +kernel)
theorem kt_w468 : (Jvm.Cond.code ({ cls := "java/lang/Integer", name := "compareUnsigned", desc := "(II)I" } : Jvm.MethodName) prog_9_method_41_code (2 : Nat) (Option.some Jvm.ClassFile.FieldType.int)) ∈ kt_all := kt_mem (i := 490) (by decide +kernel) (by decide +kernel)
theorem kt_w469 : (Jvm.Cond.constant "java/lang/Integer" (127 : Nat) (-2147483648 : Int32)) ∈ kt_all := kt_mem (i := 491) (by decide +kernel) (by decide +kernel)
theorem kt_w470 : (Jvm.Cond.methodLink "java/lang/Integer" (259 : Nat) ({ cls := "java/lang/Integer", name := "compare", desc := "(II)I" } : Jvm.MethodName)) ∈ kt_all := kt_mem (i := 492) (by decide +kernel) (by decide +kernel)
theorem kt_w471 : (Jvm.Cond.static ({ cls := "java/lang/Integer", name := "compare", desc := "(II)I" } : Jvm.MethodName)) ∈ kt_all := kt_mem (i := 493) (by decide +kernel) (by decide +kernel)
theorem kt_w472 : (Jvm.Cond.code ({ cls := "java/lang/Integer", name := "compare", desc := "(II)I" } : Jvm.MethodName) prog_9_method_40_code (2 : Nat) (Option.some Jvm.ClassFile.FieldType.int)) ∈ kt_all := kt_mem (i := 494) (by decide +kernel) (by decide +kernel)
theorem kt_w473 : (Jvm.Cond.methodLink "KeyCurveModel" (97 : Nat) ({ cls := "KeyCurveModel", name := "sub", desc := "([I[I[I)I" } : Jvm.MethodName)) ∈ kt_all := kt_mem (i := 495) (by decide +kernel) (by decide +kernel)
theorem kt_w474 : (Jvm.Cond.static ({ cls := "KeyCurveModel", name := "sub", desc := "([I[I[I)I" } : Jvm.MethodName)) ∈ kt_all := kt_mem (i := 496) (by decide +kernel) (by decide +kernel)
theorem kt_w475 : (Jvm.Cond.code ({ cls := "KeyCurveModel", name := "sub", desc := "([I[I[I)I" } : Jvm.MethodName) prog_7_method_6_code (6 : Nat) (Option.some Jvm.ClassFile.FieldType.int)) ∈ kt_all := kt_mem (i := 497) (by decide +kernel) (by decide +kernel)
theorem kt_w476 : (Jvm.Cond.constantLong "KeyCurveModel" (76 : Nat) (4294967295 : Int64)) ∈ kt_all := kt_mem (i := 498) (by decide +kernel) (by decide +kernel)
theorem kt_w477 : (Jvm.Cond.methodLink "KeyCurveModel" (101 : Nat) ({ cls := "KeyCurveModel", name := "add", desc := "([I[I[I)I" } : Jvm.MethodName)) ∈ kt_all := kt_mem (i := 499) (by decide +kernel) (by decide +kernel)
theorem kt_w478 : (Jvm.Cond.static ({ cls := "KeyCurveModel", name := "add", desc := "([I[I[I)I" } : Jvm.MethodName)) ∈ kt_all := kt_mem (i := 500) (by decide +kernel) (by decide +kernel)
theorem kt_w479 : (Jvm.Cond.code ({ cls := "KeyCurveModel", name := "add", desc := "([I[I[I)I" } : Jvm.MethodName) prog_7_method_5_code (6 : Nat) (Option.some Jvm.ClassFile.FieldType.int)) ∈ kt_all := kt_mem (i := 501) (by decide +kernel) (by decide +kernel)
theorem kt_w480 : (Jvm.Cond.methodLink "KeyCurveLaw" (31 : Nat) ({ cls := "KeyCurveModel", name := "subtract", desc := "(IIIZ)V" } : Jvm.MethodName)) ∈ kt_all := kt_mem (i := 502) (by decide +kernel) (by decide +kernel)
theorem kt_w481 : (Jvm.Cond.instanceMethod ({ cls := "KeyCurveModel", name := "subtract", desc := "(IIIZ)V" } : Jvm.MethodName)) ∈ kt_all := kt_mem (i := 503) (by decide +kernel) (by decide +kernel)
theorem kt_w482 : (Jvm.Cond.selects "KeyCurveModel" ({ cls := "KeyCurveModel", name := "subtract", desc := "(IIIZ)V" } : Jvm.MethodName) ({ cls := "KeyCurveModel", name := "subtract", desc := "(IIIZ)V" } : Jvm.MethodName)) ∈ kt_all := kt_mem (i := 504) (by decide +kernel) (by decide +kernel)
theorem kt_w483 : (Jvm.Cond.code ({ cls := "KeyCurveModel", name := "subtract", desc := "(IIIZ)V" } : Jvm.MethodName) prog_7_method_23_code (5 : Nat) (Option.none : Option Jvm.ClassFile.FieldType)) ∈ kt_all := kt_mem (i := 505) (by decide +kernel) (by decide +kernel)
theorem kt_w484 : (Jvm.Cond.methodLink "KeyCurveLaw" (35 : Nat) ({ cls := "KeyCurveModel", name := "multiply", desc := "(IIIZ)V" } : Jvm.MethodName)) ∈ kt_all := kt_mem (i := 506) (by decide +kernel) (by decide +kernel)
theorem kt_w485 : (Jvm.Cond.instanceMethod ({ cls := "KeyCurveModel", name := "multiply", desc := "(IIIZ)V" } : Jvm.MethodName)) ∈ kt_all := kt_mem (i := 507) (by decide +kernel) (by decide +kernel)
theorem kt_w486 : (Jvm.Cond.selects "KeyCurveModel" ({ cls := "KeyCurveModel", name := "multiply", desc := "(IIIZ)V" } : Jvm.MethodName) ({ cls := "KeyCurveModel", name := "multiply", desc := "(IIIZ)V" } : Jvm.MethodName)) ∈ kt_all := kt_mem (i := 508) (by decide +kernel) (by decide +kernel)
theorem kt_w487 : (Jvm.Cond.code ({ cls := "KeyCurveModel", name := "multiply", desc := "(IIIZ)V" } : Jvm.MethodName) prog_7_method_24_code (5 : Nat) (Option.none : Option Jvm.ClassFile.FieldType)) ∈ kt_all := kt_mem (i := 509) (by decide +kernel) (by decide +kernel)
theorem kt_w488 : (Jvm.Cond.methodLink "KeyCurveModel" (142 : Nat) ({ cls := "KeyCurveModel", name := "timesN", desc := "([I[I[I)V" } : Jvm.MethodName)) ∈ kt_all := kt_mem (i := 510) (by decide +kernel) (by decide +kernel)
theorem kt_w490 : (Jvm.Cond.instanceMethod ({ cls := "KeyCurveModel", name := "timesN", desc := "([I[I[I)V" } : Jvm.MethodName)) ∈ kt_all := kt_mem (i := 512) (by decide +kernel) (by decide +kernel)
theorem kt_w491 : (Jvm.Cond.code ({ cls := "KeyCurveModel", name := "timesN", desc := "([I[I[I)V" } : Jvm.MethodName) prog_7_method_16_code (6 : Nat) (Option.none : Option Jvm.ClassFile.FieldType)) ∈ kt_all := kt_mem (i := 513) (by decide +kernel) (by decide +kernel)
theorem kt_w492 : (Jvm.Cond.methodLink "KeyCurveModel" (84 : Nat) ({ cls := "KeyCurveModel", name := "multiply", desc := "([I[I)V" } : Jvm.MethodName)) ∈ kt_all := kt_mem (i := 514) (by decide +kernel) (by decide +kernel)
theorem kt_w494 : (Jvm.Cond.instanceMethod ({ cls := "KeyCurveModel", name := "multiply", desc := "([I[I)V" } : Jvm.MethodName)) ∈ kt_all := kt_mem (i := 516) (by decide +kernel) (by decide +kernel)
theorem kt_w495 : (Jvm.Cond.code ({ cls := "KeyCurveModel", name := "multiply", desc := "([I[I)V" } : Jvm.MethodName) prog_7_method_9_code (7 : Nat) (Option.none : Option Jvm.ClassFile.FieldType)) ∈ kt_all := kt_mem (i := 517) (by decide +kernel) (by decide +kernel)
theorem kt_w496 : (Jvm.Cond.methodLink "KeyCurveModel" (125 : Nat) ({ cls := "KeyCurveModel", name := "times", desc := "([I[I[I)V" } : Jvm.MethodName)) ∈ kt_all := kt_mem (i := 518) (by decide +kernel) (by decide +kernel)
theorem kt_w498 : (Jvm.Cond.instanceMethod ({ cls := "KeyCurveModel", name := "times", desc := "([I[I[I)V" } : Jvm.MethodName)) ∈ kt_all := kt_mem (i := 520) (by decide +kernel) (by decide +kernel)
theorem kt_w499 : (Jvm.Cond.code ({ cls := "KeyCurveModel", name := "times", desc := "([I[I[I)V" } : Jvm.MethodName) prog_7_method_10_code (9 : Nat) (Option.none : Option Jvm.ClassFile.FieldType)) ∈ kt_all := kt_mem (i := 521) (by decide +kernel) (by decide +kernel)
theorem kt_w500 : (Jvm.Cond.constantLong "KeyCurveModel" (88 : Nat) (977 : Int64)) ∈ kt_all := kt_mem (i := 522) (by decide +kernel) (by decide +kernel)
theorem kt_w501 : (Jvm.Cond.methodLink "KeyCurveLaw" (40 : Nat) ({ cls := "KeyCurveModel", name := "invert", desc := "(IIZ)Z" } : Jvm.MethodName)) ∈ kt_all := kt_mem (i := 523) (by decide +kernel) (by decide +kernel)
theorem kt_w502 : (Jvm.Cond.instanceMethod ({ cls := "KeyCurveModel", name := "invert", desc := "(IIZ)Z" } : Jvm.MethodName)) ∈ kt_all := kt_mem (i := 524) (by decide +kernel) (by decide +kernel)
theorem kt_w503 : (Jvm.Cond.selects "KeyCurveModel" ({ cls := "KeyCurveModel", name := "invert", desc := "(IIZ)Z" } : Jvm.MethodName) ({ cls := "KeyCurveModel", name := "invert", desc := "(IIZ)Z" } : Jvm.MethodName)) ∈ kt_all := kt_mem (i := 525) (by decide +kernel) (by decide +kernel)
theorem kt_w504 : (Jvm.Cond.code ({ cls := "KeyCurveModel", name := "invert", desc := "(IIZ)Z" } : Jvm.MethodName) prog_7_method_25_code (4 : Nat) (Option.some Jvm.ClassFile.FieldType.boolean)) ∈ kt_all := kt_mem (i := 526) (by decide +kernel) (by decide +kernel)
theorem kt_w505 : (Jvm.Cond.methodLink "KeyCurveModel" (122 : Nat) ({ cls := "KeyCurveModel", name := "isZero", desc := "([I)Z" } : Jvm.MethodName)) ∈ kt_all := kt_mem (i := 527) (by decide +kernel) (by decide +kernel)
theorem kt_w506 : (Jvm.Cond.static ({ cls := "KeyCurveModel", name := "isZero", desc := "([I)Z" } : Jvm.MethodName)) ∈ kt_all := kt_mem (i := 528) (by decide +kernel) (by decide +kernel)
theorem kt_w507 : (Jvm.Cond.code ({ cls := "KeyCurveModel", name := "isZero", desc := "([I)Z" } : Jvm.MethodName) prog_7_method_4_code (2 : Nat) (Option.some Jvm.ClassFile.FieldType.boolean)) ∈ kt_all := kt_mem (i := 529) (by decide +kernel) (by decide +kernel)
theorem kt_w508 : (Jvm.Cond.methodLink "KeyCurveModel" (135 : Nat) ({ cls := "KeyCurveModel", name := "inverse", desc := "([I[I[I)V" } : Jvm.MethodName)) ∈ kt_all := kt_mem (i := 530) (by decide +kernel) (by decide +kernel)
theorem kt_w510 : (Jvm.Cond.instanceMethod ({ cls := "KeyCurveModel", name := "inverse", desc := "([I[I[I)V" } : Jvm.MethodName)) ∈ kt_all := kt_mem (i := 532) (by decide +kernel) (by decide +kernel)
theorem kt_w511 : (Jvm.Cond.code ({ cls := "KeyCurveModel", name := "inverse", desc := "([I[I[I)V" } : Jvm.MethodName) prog_7_method_15_code (5 : Nat) (Option.none : Option Jvm.ClassFile.FieldType)) ∈ kt_all := kt_mem (i := 533) (by decide +kernel) (by decide +kernel)
theorem kt_w512 : (Jvm.Cond.methodLink "KeyCurveModel" (107 : Nat) ({ cls := "KeyCurveModel", name := "isOne", desc := "([I)Z" } : Jvm.MethodName)) ∈ kt_all := kt_mem (i := 534) (by decide +kernel) (by decide +kernel)
theorem kt_w513 : (Jvm.Cond.static ({ cls := "KeyCurveModel", name := "isOne", desc := "([I)Z" } : Jvm.MethodName)) ∈ kt_all := kt_mem (i := 535) (by decide +kernel) (by decide +kernel)
theorem kt_w514 : (Jvm.Cond.code ({ cls := "KeyCurveModel", name := "isOne", desc := "([I)Z" } : Jvm.MethodName) prog_7_method_14_code (2 : Nat) (Option.some Jvm.ClassFile.FieldType.boolean)) ∈ kt_all := kt_mem (i := 536) (by decide +kernel) (by decide +kernel)
theorem kt_w515 : (Jvm.Cond.methodLink "KeyCurveModel" (111 : Nat) ({ cls := "KeyCurveModel", name := "half", desc := "([II)V" } : Jvm.MethodName)) ∈ kt_all := kt_mem (i := 537) (by decide +kernel) (by decide +kernel)
theorem kt_w516 : (Jvm.Cond.static ({ cls := "KeyCurveModel", name := "half", desc := "([II)V" } : Jvm.MethodName)) ∈ kt_all := kt_mem (i := 538) (by decide +kernel) (by decide +kernel)
theorem kt_w517 : (Jvm.Cond.code ({ cls := "KeyCurveModel", name := "half", desc := "([II)V" } : Jvm.MethodName) prog_7_method_13_code (3 : Nat) (Option.none : Option Jvm.ClassFile.FieldType)) ∈ kt_all := kt_mem (i := 539) (by decide +kernel) (by decide +kernel)
theorem kt_w518 : (Jvm.Cond.methodLink "KeyCurveLaw" (45 : Nat) ({ cls := "KeyCurveModel", name := "root", desc := "(II)Z" } : Jvm.MethodName)) ∈ kt_all := kt_mem (i := 540) (by decide +kernel) (by decide +kernel)
theorem kt_w519 : (Jvm.Cond.instanceMethod ({ cls := "KeyCurveModel", name := "root", desc := "(II)Z" } : Jvm.MethodName)) ∈ kt_all := kt_mem (i := 541) (by decide +kernel) (by decide +kernel)
theorem kt_w520 : (Jvm.Cond.selects "KeyCurveModel" ({ cls := "KeyCurveModel", name := "root", desc := "(II)Z" } : Jvm.MethodName) ({ cls := "KeyCurveModel", name := "root", desc := "(II)Z" } : Jvm.MethodName)) ∈ kt_all := kt_mem (i := 542) (by decide +kernel) (by decide +kernel)
theorem kt_w521 : (Jvm.Cond.code ({ cls := "KeyCurveModel", name := "root", desc := "(II)Z" } : Jvm.MethodName) prog_7_method_27_code (3 : Nat) (Option.some Jvm.ClassFile.FieldType.boolean)) ∈ kt_all := kt_mem (i := 543) (by decide +kernel) (by decide +kernel)
theorem kt_w522 : (Jvm.Cond.methodLink "KeyCurveModel" (152 : Nat) ({ cls := "KeyCurveModel", name := "isRoot", desc := "([I[I)Z" } : Jvm.MethodName)) ∈ kt_all := kt_mem (i := 544) (by decide +kernel) (by decide +kernel)
theorem kt_w524 : (Jvm.Cond.instanceMethod ({ cls := "KeyCurveModel", name := "isRoot", desc := "([I[I)Z" } : Jvm.MethodName)) ∈ kt_all := kt_mem (i := 546) (by decide +kernel) (by decide +kernel)
theorem kt_w525 : (Jvm.Cond.code ({ cls := "KeyCurveModel", name := "isRoot", desc := "([I[I)Z" } : Jvm.MethodName) prog_7_method_26_code (4 : Nat) (Option.some Jvm.ClassFile.FieldType.boolean)) ∈ kt_all := kt_mem (i := 547) (by decide +kernel) (by decide +kernel)
theorem kt_w526 : (Jvm.Cond.methodLink "KeyCurveModel" (145 : Nat) ({ cls := "KeyCurveModel", name := "bit", desc := "([II)I" } : Jvm.MethodName)) ∈ kt_all := kt_mem (i := 548) (by decide +kernel) (by decide +kernel)
theorem kt_w527 : (Jvm.Cond.static ({ cls := "KeyCurveModel", name := "bit", desc := "([II)I" } : Jvm.MethodName)) ∈ kt_all := kt_mem (i := 549) (by decide +kernel) (by decide +kernel)
theorem kt_w528 : (Jvm.Cond.code ({ cls := "KeyCurveModel", name := "bit", desc := "([II)I" } : Jvm.MethodName) prog_7_method_8_code (2 : Nat) (Option.some Jvm.ClassFile.FieldType.int)) ∈ kt_all := kt_mem (i := 550) (by decide +kernel) (by decide +kernel)
theorem kt_w529 : (Jvm.Cond.methodLink "KeyCurveModel" (149 : Nat) ({ cls := "KeyCurveModel", name := "isEven", desc := "([I)Z" } : Jvm.MethodName)) ∈ kt_all := kt_mem (i := 551) (by decide +kernel) (by decide +kernel)
theorem kt_w530 : (Jvm.Cond.static ({ cls := "KeyCurveModel", name := "isEven", desc := "([I)Z" } : Jvm.MethodName)) ∈ kt_all := kt_mem (i := 552) (by decide +kernel) (by decide +kernel)
theorem kt_w531 : (Jvm.Cond.code ({ cls := "KeyCurveModel", name := "isEven", desc := "([I)Z" } : Jvm.MethodName) prog_7_method_19_code (1 : Nat) (Option.some Jvm.ClassFile.FieldType.boolean)) ∈ kt_all := kt_mem (i := 553) (by decide +kernel) (by decide +kernel)
theorem kt_w532 : (Jvm.Cond.methodLink "KeyCurveLaw" (50 : Nat) ({ cls := "KeyCurveModel", name := "base", desc := "(I)V" } : Jvm.MethodName)) ∈ kt_all := kt_mem (i := 554) (by decide +kernel) (by decide +kernel)
theorem kt_w533 : (Jvm.Cond.instanceMethod ({ cls := "KeyCurveModel", name := "base", desc := "(I)V" } : Jvm.MethodName)) ∈ kt_all := kt_mem (i := 555) (by decide +kernel) (by decide +kernel)
theorem kt_w534 : (Jvm.Cond.selects "KeyCurveModel" ({ cls := "KeyCurveModel", name := "base", desc := "(I)V" } : Jvm.MethodName) ({ cls := "KeyCurveModel", name := "base", desc := "(I)V" } : Jvm.MethodName)) ∈ kt_all := kt_mem (i := 556) (by decide +kernel) (by decide +kernel)
theorem kt_w535 : (Jvm.Cond.code ({ cls := "KeyCurveModel", name := "base", desc := "(I)V" } : Jvm.MethodName) prog_7_method_29_code (2 : Nat) (Option.none : Option Jvm.ClassFile.FieldType)) ∈ kt_all := kt_mem (i := 557) (by decide +kernel) (by decide +kernel)
theorem kt_w536 : (Jvm.Cond.fieldLink "KeyCurveModel" (156 : Nat) "KeyCurveModel" "GX" "[I") ∈ kt_all := kt_mem (i := 558) (by decide +kernel) (by decide +kernel)
theorem kt_w538 : (Jvm.Cond.fieldLink "KeyCurveModel" (159 : Nat) "KeyCurveModel" "GY" "[I") ∈ kt_all := kt_mem (i := 560) (by decide +kernel) (by decide +kernel)
theorem kt_w540 : (Jvm.Cond.methodLink "KeyCurveModel" (162 : Nat) ({ cls := "KeyCurveModel", name := "keep", desc := "(I[I[I)V" } : Jvm.MethodName)) ∈ kt_all := kt_mem (i := 562) (by decide +kernel) (by decide +kernel)
theorem kt_w542 : (Jvm.Cond.instanceMethod ({ cls := "KeyCurveModel", name := "keep", desc := "(I[I[I)V" } : Jvm.MethodName)) ∈ kt_all := kt_mem (i := 564) (by decide +kernel) (by decide +kernel)
theorem kt_w543 : (Jvm.Cond.code ({ cls := "KeyCurveModel", name := "keep", desc := "(I[I[I)V" } : Jvm.MethodName) prog_7_method_28_code (4 : Nat) (Option.none : Option Jvm.ClassFile.FieldType)) ∈ kt_all := kt_mem (i := 565) (by decide +kernel) (by decide +kernel)
theorem kt_w544 : (Jvm.Cond.methodLink "KeyCurveLaw" (54 : Nat) ({ cls := "KeyCurveModel", name := "none", desc := "(I)V" } : Jvm.MethodName)) ∈ kt_all := kt_mem (i := 566) (by decide +kernel) (by decide +kernel)
theorem kt_w545 : (Jvm.Cond.instanceMethod ({ cls := "KeyCurveModel", name := "none", desc := "(I)V" } : Jvm.MethodName)) ∈ kt_all := kt_mem (i := 567) (by decide +kernel) (by decide +kernel)
theorem kt_w546 : (Jvm.Cond.selects "KeyCurveModel" ({ cls := "KeyCurveModel", name := "none", desc := "(I)V" } : Jvm.MethodName) ({ cls := "KeyCurveModel", name := "none", desc := "(I)V" } : Jvm.MethodName)) ∈ kt_all := kt_mem (i := 568) (by decide +kernel) (by decide +kernel)
theorem kt_w547 : (Jvm.Cond.code ({ cls := "KeyCurveModel", name := "none", desc := "(I)V" } : Jvm.MethodName) prog_7_method_30_code (2 : Nat) (Option.none : Option Jvm.ClassFile.FieldType)) ∈ kt_all := kt_mem (i := 569) (by decide +kernel) (by decide +kernel)
theorem kt_w548 : (Jvm.Cond.methodLink "KeyCurveLaw" (59 : Nat) ({ cls := "KeyCurveModel", name := "point", desc := "(III)Z" } : Jvm.MethodName)) ∈ kt_all := kt_mem (i := 570) (by decide +kernel) (by decide +kernel)
theorem kt_w549 : (Jvm.Cond.instanceMethod ({ cls := "KeyCurveModel", name := "point", desc := "(III)Z" } : Jvm.MethodName)) ∈ kt_all := kt_mem (i := 571) (by decide +kernel) (by decide +kernel)
theorem kt_w550 : (Jvm.Cond.selects "KeyCurveModel" ({ cls := "KeyCurveModel", name := "point", desc := "(III)Z" } : Jvm.MethodName) ({ cls := "KeyCurveModel", name := "point", desc := "(III)Z" } : Jvm.MethodName)) ∈ kt_all := kt_mem (i := 572) (by decide +kernel) (by decide +kernel)
theorem kt_w551 : (Jvm.Cond.code ({ cls := "KeyCurveModel", name := "point", desc := "(III)Z" } : Jvm.MethodName) prog_7_method_32_code (6 : Nat) (Option.some Jvm.ClassFile.FieldType.boolean)) ∈ kt_all := kt_mem (i := 573) (by decide +kernel) (by decide +kernel)
theorem kt_w552 : (Jvm.Cond.methodLink "KeyCurveModel" (166 : Nat) ({ cls := "KeyCurveModel", name := "square", desc := "([I)V" } : Jvm.MethodName)) ∈ kt_all := kt_mem (i := 574) (by decide +kernel) (by decide +kernel)
theorem kt_w554 : (Jvm.Cond.instanceMethod ({ cls := "KeyCurveModel", name := "square", desc := "([I)V" } : Jvm.MethodName)) ∈ kt_all := kt_mem (i := 576) (by decide +kernel) (by decide +kernel)
theorem kt_w555 : (Jvm.Cond.code ({ cls := "KeyCurveModel", name := "square", desc := "([I)V" } : Jvm.MethodName) prog_7_method_31_code (3 : Nat) (Option.none : Option Jvm.ClassFile.FieldType)) ∈ kt_all := kt_mem (i := 577) (by decide +kernel) (by decide +kernel)
theorem kt_w556 : (Jvm.Cond.methodLink "KeyCurveModel" (129 : Nat) ({ cls := "KeyCurveModel", name := "plus", desc := "([I[I[I)V" } : Jvm.MethodName)) ∈ kt_all := kt_mem (i := 578) (by decide +kernel) (by decide +kernel)
theorem kt_w557 : (Jvm.Cond.static ({ cls := "KeyCurveModel", name := "plus", desc := "([I[I[I)V" } : Jvm.MethodName)) ∈ kt_all := kt_mem (i := 579) (by decide +kernel) (by decide +kernel)
theorem kt_w558 : (Jvm.Cond.code ({ cls := "KeyCurveModel", name := "plus", desc := "([I[I[I)V" } : Jvm.MethodName) prog_7_method_12_code (3 : Nat) (Option.none : Option Jvm.ClassFile.FieldType)) ∈ kt_all := kt_mem (i := 580) (by decide +kernel) (by decide +kernel)
theorem kt_w559 : (Jvm.Cond.methodLink "KeyCurveLaw" (63 : Nat) ({ cls := "KeyCurveModel", name := "lift", desc := "(IIZ)Z" } : Jvm.MethodName)) ∈ kt_all := kt_mem (i := 581) (by decide +kernel) (by decide +kernel)
theorem kt_w560 : (Jvm.Cond.instanceMethod ({ cls := "KeyCurveModel", name := "lift", desc := "(IIZ)Z" } : Jvm.MethodName)) ∈ kt_all := kt_mem (i := 582) (by decide +kernel) (by decide +kernel)
theorem kt_w561 : (Jvm.Cond.selects "KeyCurveModel" ({ cls := "KeyCurveModel", name := "lift", desc := "(IIZ)Z" } : Jvm.MethodName) ({ cls := "KeyCurveModel", name := "lift", desc := "(IIZ)Z" } : Jvm.MethodName)) ∈ kt_all := kt_mem (i := 583) (by decide +kernel) (by decide +kernel)
theorem kt_w562 : (Jvm.Cond.code ({ cls := "KeyCurveModel", name := "lift", desc := "(IIZ)Z" } : Jvm.MethodName) prog_7_method_33_code (5 : Nat) (Option.some Jvm.ClassFile.FieldType.boolean)) ∈ kt_all := kt_mem (i := 584) (by decide +kernel) (by decide +kernel)
theorem kt_w563 : (Jvm.Cond.methodLink "KeyCurveLaw" (68 : Nat) ({ cls := "KeyCurveModel", name := "plus", desc := "(III)V" } : Jvm.MethodName)) ∈ kt_all := kt_mem (i := 585) (by decide +kernel) (by decide +kernel)
theorem kt_w564 : (Jvm.Cond.instanceMethod ({ cls := "KeyCurveModel", name := "plus", desc := "(III)V" } : Jvm.MethodName)) ∈ kt_all := kt_mem (i := 586) (by decide +kernel) (by decide +kernel)
theorem kt_w565 : (Jvm.Cond.selects "KeyCurveModel" ({ cls := "KeyCurveModel", name := "plus", desc := "(III)V" } : Jvm.MethodName) ({ cls := "KeyCurveModel", name := "plus", desc := "(III)V" } : Jvm.MethodName)) ∈ kt_all := kt_mem (i := 587) (by decide +kernel) (by decide +kernel)
theorem kt_w566 : (Jvm.Cond.code ({ cls := "KeyCurveModel", name := "plus", desc := "(III)V" } : Jvm.MethodName) prog_7_method_36_code (4 : Nat) (Option.none : Option Jvm.ClassFile.FieldType)) ∈ kt_all := kt_mem (i := 588) (by decide +kernel) (by decide +kernel)
theorem kt_w567 : (Jvm.Cond.methodLink "KeyCurveModel" (170 : Nat) ({ cls := "KeyCurveModel", name := "load", desc := "(I)V" } : Jvm.MethodName)) ∈ kt_all := kt_mem (i := 589) (by decide +kernel) (by decide +kernel)
theorem kt_w569 : (Jvm.Cond.instanceMethod ({ cls := "KeyCurveModel", name := "load", desc := "(I)V" } : Jvm.MethodName)) ∈ kt_all := kt_mem (i := 591) (by decide +kernel) (by decide +kernel)
theorem kt_w570 : (Jvm.Cond.code ({ cls := "KeyCurveModel", name := "load", desc := "(I)V" } : Jvm.MethodName) prog_7_method_34_code (2 : Nat) (Option.none : Option Jvm.ClassFile.FieldType)) ∈ kt_all := kt_mem (i := 592) (by decide +kernel) (by decide +kernel)
theorem kt_w571 : (Jvm.Cond.methodLink "KeyCurveModel" (174 : Nat) ({ cls := "KeyCurveModel", name := "more", desc := "([I[I)V" } : Jvm.MethodName)) ∈ kt_all := kt_mem (i := 593) (by decide +kernel) (by decide +kernel)
theorem kt_w573 : (Jvm.Cond.instanceMethod ({ cls := "KeyCurveModel", name := "more", desc := "([I[I)V" } : Jvm.MethodName)) ∈ kt_all := kt_mem (i := 595) (by decide +kernel) (by decide +kernel)
theorem kt_w574 : (Jvm.Cond.code ({ cls := "KeyCurveModel", name := "more", desc := "([I[I)V" } : Jvm.MethodName) prog_7_method_37_code (3 : Nat) (Option.none : Option Jvm.ClassFile.FieldType)) ∈ kt_all := kt_mem (i := 596) (by decide +kernel) (by decide +kernel)
theorem kt_w575 : (Jvm.Cond.methodLink "KeyCurveModel" (180 : Nat) ({ cls := "KeyCurveModel", name := "join", desc := "([I[IZ)V" } : Jvm.MethodName)) ∈ kt_all := kt_mem (i := 597) (by decide +kernel) (by decide +kernel)
theorem kt_w577 : (Jvm.Cond.instanceMethod ({ cls := "KeyCurveModel", name := "join", desc := "([I[IZ)V" } : Jvm.MethodName)) ∈ kt_all := kt_mem (i := 599) (by decide +kernel) (by decide +kernel)
theorem kt_w578 : (Jvm.Cond.code ({ cls := "KeyCurveModel", name := "join", desc := "([I[IZ)V" } : Jvm.MethodName) prog_7_method_17_code (5 : Nat) (Option.none : Option Jvm.ClassFile.FieldType)) ∈ kt_all := kt_mem (i := 600) (by decide +kernel) (by decide +kernel)
theorem kt_w579 : (Jvm.Cond.methodLink "KeyCurveModel" (132 : Nat) ({ cls := "KeyCurveModel", name := "minus", desc := "([I[I[I)V" } : Jvm.MethodName)) ∈ kt_all := kt_mem (i := 601) (by decide +kernel) (by decide +kernel)
theorem kt_w580 : (Jvm.Cond.static ({ cls := "KeyCurveModel", name := "minus", desc := "([I[I[I)V" } : Jvm.MethodName)) ∈ kt_all := kt_mem (i := 602) (by decide +kernel) (by decide +kernel)
theorem kt_w581 : (Jvm.Cond.code ({ cls := "KeyCurveModel", name := "minus", desc := "([I[I[I)V" } : Jvm.MethodName) prog_7_method_11_code (3 : Nat) (Option.none : Option Jvm.ClassFile.FieldType)) ∈ kt_all := kt_mem (i := 603) (by decide +kernel) (by decide +kernel)
theorem kt_w582 : (Jvm.Cond.methodLink "KeyCurveModel" (177 : Nat) ({ cls := "KeyCurveModel", name := "store", desc := "(I)V" } : Jvm.MethodName)) ∈ kt_all := kt_mem (i := 604) (by decide +kernel) (by decide +kernel)
theorem kt_w584 : (Jvm.Cond.instanceMethod ({ cls := "KeyCurveModel", name := "store", desc := "(I)V" } : Jvm.MethodName)) ∈ kt_all := kt_mem (i := 606) (by decide +kernel) (by decide +kernel)
theorem kt_w585 : (Jvm.Cond.code ({ cls := "KeyCurveModel", name := "store", desc := "(I)V" } : Jvm.MethodName) prog_7_method_35_code (2 : Nat) (Option.none : Option Jvm.ClassFile.FieldType)) ∈ kt_all := kt_mem (i := 607) (by decide +kernel) (by decide +kernel)
theorem kt_w586 : (Jvm.Cond.methodLink "KeyCurveLaw" (72 : Nat) ({ cls := "KeyCurveModel", name := "times", desc := "(III)V" } : Jvm.MethodName)) ∈ kt_all := kt_mem (i := 608) (by decide +kernel) (by decide +kernel)
theorem kt_w587 : (Jvm.Cond.instanceMethod ({ cls := "KeyCurveModel", name := "times", desc := "(III)V" } : Jvm.MethodName)) ∈ kt_all := kt_mem (i := 609) (by decide +kernel) (by decide +kernel)
theorem kt_w588 : (Jvm.Cond.selects "KeyCurveModel" ({ cls := "KeyCurveModel", name := "times", desc := "(III)V" } : Jvm.MethodName) ({ cls := "KeyCurveModel", name := "times", desc := "(III)V" } : Jvm.MethodName)) ∈ kt_all := kt_mem (i := 610) (by decide +kernel) (by decide +kernel)
theorem kt_w589 : (Jvm.Cond.code ({ cls := "KeyCurveModel", name := "times", desc := "(III)V" } : Jvm.MethodName) prog_7_method_38_code (5 : Nat) (Option.none : Option Jvm.ClassFile.FieldType)) ∈ kt_all := kt_mem (i := 611) (by decide +kernel) (by decide +kernel)
theorem kt_w590 : (Jvm.Cond.methodLink "KeyCurveLaw" (76 : Nat) ({ cls := "KeyCurveModel", name := "take", desc := "(IIZ)Z" } : Jvm.MethodName)) ∈ kt_all := kt_mem (i := 612) (by decide +kernel) (by decide +kernel)
theorem kt_w591 : (Jvm.Cond.instanceMethod ({ cls := "KeyCurveModel", name := "take", desc := "(IIZ)Z" } : Jvm.MethodName)) ∈ kt_all := kt_mem (i := 613) (by decide +kernel) (by decide +kernel)
theorem kt_w592 : (Jvm.Cond.selects "KeyCurveModel" ({ cls := "KeyCurveModel", name := "take", desc := "(IIZ)Z" } : Jvm.MethodName) ({ cls := "KeyCurveModel", name := "take", desc := "(IIZ)Z" } : Jvm.MethodName)) ∈ kt_all := kt_mem (i := 614) (by decide +kernel) (by decide +kernel)
theorem kt_w593 : (Jvm.Cond.code ({ cls := "KeyCurveModel", name := "take", desc := "(IIZ)Z" } : Jvm.MethodName) prog_7_method_39_code (4 : Nat) (Option.some Jvm.ClassFile.FieldType.boolean)) ∈ kt_all := kt_mem (i := 615) (by decide +kernel) (by decide +kernel)
theorem kt_w594 : (Jvm.Cond.methodLink "KeyCurveLaw" (80 : Nat) ({ cls := "KeyCurveModel", name := "same", desc := "(II)Z" } : Jvm.MethodName)) ∈ kt_all := kt_mem (i := 616) (by decide +kernel) (by decide +kernel)
theorem kt_w595 : (Jvm.Cond.instanceMethod ({ cls := "KeyCurveModel", name := "same", desc := "(II)Z" } : Jvm.MethodName)) ∈ kt_all := kt_mem (i := 617) (by decide +kernel) (by decide +kernel)
theorem kt_w596 : (Jvm.Cond.selects "KeyCurveModel" ({ cls := "KeyCurveModel", name := "same", desc := "(II)Z" } : Jvm.MethodName) ({ cls := "KeyCurveModel", name := "same", desc := "(II)Z" } : Jvm.MethodName)) ∈ kt_all := kt_mem (i := 618) (by decide +kernel) (by decide +kernel)
theorem kt_w597 : (Jvm.Cond.code ({ cls := "KeyCurveModel", name := "same", desc := "(II)Z" } : Jvm.MethodName) prog_7_method_40_code (3 : Nat) (Option.some Jvm.ClassFile.FieldType.boolean)) ∈ kt_all := kt_mem (i := 619) (by decide +kernel) (by decide +kernel)
end
section
/-! KeyCurve$Words: the contracts (own rows). -/
theorem d_Wo_sumInto_0 : decode b_Wo_sumInto 0 = .ok (.lconst 0, 1) := by decide +kernel
theorem d_Wo_sumInto_1 : decode b_Wo_sumInto 1 = .ok (.lstore_n 3, 1) := by decide +kernel
theorem d_Wo_sumInto_2 : decode b_Wo_sumInto 2 = .ok (.iconst 0, 1) := by decide +kernel
theorem d_Wo_sumInto_3 : decode b_Wo_sumInto 3 = .ok (.istore 5, 2) := by decide +kernel
theorem d_Wo_sumInto_5 : decode b_Wo_sumInto 5 = .ok (.iload 5, 2) := by decide +kernel
theorem d_Wo_sumInto_7 : decode b_Wo_sumInto 7 = .ok (.bipush 8, 2) := by decide +kernel
theorem d_Wo_sumInto_9 : decode b_Wo_sumInto 9 = .ok (.if_icmp .ge 38, 3) := by decide +kernel
theorem d_Wo_sumInto_12 : decode b_Wo_sumInto 12 = .ok (.aload_n 1, 1) := by decide +kernel
theorem d_Wo_sumInto_13 : decode b_Wo_sumInto 13 = .ok (.iload 5, 2) := by decide +kernel
theorem d_Wo_sumInto_15 : decode b_Wo_sumInto 15 = .ok (.laload, 1) := by decide +kernel
theorem d_Wo_sumInto_16 : decode b_Wo_sumInto 16 = .ok (.aload_n 2, 1) := by decide +kernel
theorem d_Wo_sumInto_17 : decode b_Wo_sumInto 17 = .ok (.iload 5, 2) := by decide +kernel
theorem d_Wo_sumInto_19 : decode b_Wo_sumInto 19 = .ok (.laload, 1) := by decide +kernel
theorem d_Wo_sumInto_20 : decode b_Wo_sumInto 20 = .ok (.ladd, 1) := by decide +kernel
theorem d_Wo_sumInto_21 : decode b_Wo_sumInto 21 = .ok (.lload_n 3, 1) := by decide +kernel
theorem d_Wo_sumInto_22 : decode b_Wo_sumInto 22 = .ok (.ladd, 1) := by decide +kernel
theorem d_Wo_sumInto_23 : decode b_Wo_sumInto 23 = .ok (.lstore 6, 2) := by decide +kernel
theorem d_Wo_sumInto_25 : decode b_Wo_sumInto 25 = .ok (.aload_n 0, 1) := by decide +kernel
theorem d_Wo_sumInto_26 : decode b_Wo_sumInto 26 = .ok (.iload 5, 2) := by decide +kernel
theorem d_Wo_sumInto_28 : decode b_Wo_sumInto 28 = .ok (.lload 6, 2) := by decide +kernel
theorem d_Wo_sumInto_30 : decode b_Wo_sumInto 30 = .ok (.ldc2_w 15, 3) := by decide +kernel
theorem d_Wo_sumInto_33 : decode b_Wo_sumInto 33 = .ok (.land, 1) := by decide +kernel
theorem d_Wo_sumInto_34 : decode b_Wo_sumInto 34 = .ok (.lastore, 1) := by decide +kernel
theorem d_Wo_sumInto_35 : decode b_Wo_sumInto 35 = .ok (.lload 6, 2) := by decide +kernel
theorem d_Wo_sumInto_37 : decode b_Wo_sumInto 37 = .ok (.bipush 32, 2) := by decide +kernel
theorem d_Wo_sumInto_39 : decode b_Wo_sumInto 39 = .ok (.lushr, 1) := by decide +kernel
theorem d_Wo_sumInto_40 : decode b_Wo_sumInto 40 = .ok (.lstore_n 3, 1) := by decide +kernel
theorem d_Wo_sumInto_41 : decode b_Wo_sumInto 41 = .ok (.iinc 5 1, 3) := by decide +kernel
theorem d_Wo_sumInto_44 : decode b_Wo_sumInto 44 = .ok (.goto (-39), 3) := by decide +kernel
theorem d_Wo_sumInto_47 : decode b_Wo_sumInto 47 = .ok (.lload_n 3, 1) := by decide +kernel
theorem d_Wo_sumInto_48 : decode b_Wo_sumInto 48 = .ok (.lreturn, 1) := by decide +kernel
section
variable {p : Program} {l : Launch} {e : Env} {R : Room} {s : State} {m : MethodId} {args : Array Value} {below : List Frame} {meth : Method} {c : Code} {cells slots : Nat} {Q : State → Prop}
set_option maxHeartbeats 4000000 in
set_option maxRecDepth 100000 in
theorem lp_Wo_sumInto (hx : p.tables.exec = Jvm.exec) (hb : c.code = b_Wo_sumInto) (hts : ∀ w ∈ w_Wo_sumInto, w.before args s = true) (hown : s.vm.findClass R_Wo = some m.cls) {cL : ClassId} {H : Heap} {r a b R0 A B : Nat} (hT : ArrOfT s cL .long) (hsa : kq_sL s H a 8 A) (hsb : kq_sL s H b 8 B) (hr : H[r]? = some (kq_L cL 8 R0)) (hB : B < kw_M 8)
    (kk : ∀ (ls : Array Slot) (locs : List Loc), (∀ q ∈ locs, q.base = r) → lv_has ls 8 [(3, .long (lN (kw_c A B 8)))] → W p l e R s m args below meth c (kq_set H r (kq_L cL 8 ((A + B) % kw_M 8))) locs cells slots Q (F0 m 47 ls [])) :
    ∀ (n i V : Nat) (ls : Array Slot) (locs : List Loc), i + n = 8 → V < kw_M 8 → V % kw_M i = (A + B) % kw_M i → (∀ j, i ≤ j → j < 8 → kw_d V j = kw_d R0 j) → (∀ q ∈ locs, q.base = r) → lv_has ls 8 [(5, .int (nI i)), (3, .long (lN (kw_c A B i))), (0, .ref r), (1, .ref a), (2, .ref b)] → W p l e R s m args below meth c (kq_set H r (kq_L cL 8 V)) locs cells slots Q (F0 m 5 ls []) := by
  intro n
  induction n with
  | zero =>
    intro i V ls locs hn hV hlo hhi hlc hl
    obtain rfl : i = 8 := by omega
    refine lv_iload hx hb d_Wo_sumInto_5 (lv_at hl 0 rfl) ?_
    refine lv_bipush (v := nI 8) hx hb d_Wo_sumInto_7 (by decide) ?_
    refine lv_icmp_ge hx hb d_Wo_sumInto_9 rfl (fun hc => ?_) (fun hc => ?_)
    · have e : V = (A + B) % kw_M 8 := by
        rw [Nat.mod_eq_of_lt hV] at hlo
        exact hlo
      rw [e]
      exact kk ls locs hlc (lv_sub hl [1] rfl)
    · exact absurd (nI_le (Nat.le_refl 8) (by decide)) hc
  | succ n ih =>
    intro i V ls locs hn hV hlo hhi hlc hl
    have hi : i < 8 := by omega
    obtain ⟨fa, ha1, ha2⟩ := kq_mixL hsa hT hr hhi hi
    obtain ⟨fb, hb1, hb2⟩ := kq_mixL hsb hT hr hhi hi
    have lA := kw_d_lt A i
    have lB := kw_d_lt B i
    have lC := kw_c_le A B i
    obtain ⟨st1, st2⟩ := kw_c_step A B i
    refine lv_iload hx hb d_Wo_sumInto_5 (lv_at hl 0 rfl) ?_
    refine lv_bipush (v := nI 8) hx hb d_Wo_sumInto_7 (by decide) ?_
    refine lv_icmp_ge hx hb d_Wo_sumInto_9 rfl (fun hc => ?_) (fun hc => ?_)
    · exact absurd hc (nI_ge hi (by decide))
    · refine lv_aload_n hx hb d_Wo_sumInto_12 rfl (lv_at hl 3 rfl) ?_
      refine lv_iload hx hb d_Wo_sumInto_13 (lv_at hl 0 rfl) ?_
      refine kq_lald hx hb (ha1) (hi) (by decide) (ha2) d_Wo_sumInto_15 ?_
      refine lv_aload_n hx hb d_Wo_sumInto_16 rfl (lv_at hl 4 rfl) ?_
      refine lv_iload hx hb d_Wo_sumInto_17 (lv_at hl 0 rfl) ?_
      refine kq_lald hx hb (hb1) (hi) (by decide) (hb2) d_Wo_sumInto_19 ?_
      refine lv_ladd hx hb d_Wo_sumInto_20 ?_
      refine kq_rl (show (lN (kw_d A i)) + (lN (kw_d B i)) = lN (kw_d A i + kw_d B i) from lN_add _ _) ?_
      refine lv_lload_n hx hb d_Wo_sumInto_21 rfl (lv_at hl 1 rfl) ?_
      refine lv_ladd hx hb d_Wo_sumInto_22 ?_
      refine kq_rl (show (lN (kw_d A i + kw_d B i)) + (lN (kw_c A B i)) = lN (kw_d A i + kw_d B i + kw_c A B i) from lN_add _ _) ?_
      refine lv_lstore hx hb d_Wo_sumInto_23 hl (by decide) rfl (fun ls hl => ?_)
      have hl : lv_has ls 8 [(6, .long (lN (kw_d A i + kw_d B i + kw_c A B i))), (5, .int (nI i)), (3, .long (lN (kw_c A B i))), (0, .ref r), (1, .ref a), (2, .ref b)] := hl
      refine lv_aload_n hx hb d_Wo_sumInto_25 rfl (lv_at hl 3 rfl) ?_
      refine lv_iload hx hb d_Wo_sumInto_26 (lv_at hl 1 rfl) ?_
      refine lv_lload hx hb d_Wo_sumInto_28 (lv_at hl 0 rfl) ?_
      refine lv_ldc2 hx hb hown (v := lN 4294967295) (hts _ (List.mem_cons_of_mem _ kt_w180)) d_Wo_sumInto_30 ?_
      refine lv_land hx hb d_Wo_sumInto_33 ?_
      refine kq_rl (show (lN (kw_d A i + kw_d B i + kw_c A B i)) &&& (lN 4294967295) = lN (kw_d (A + B) i) from (by rw [kq_mask, st2])) ?_
      refine kq_last hx hb (hT) (kq_set_at hr) (hi) (by decide) (kw_d_lt _ _) d_Wo_sumInto_34 ?_
      refine kq_rH (kq_set_set _ _ _ _) ?_
      refine lv_lload hx hb d_Wo_sumInto_35 (lv_at hl 0 rfl) ?_
      refine lv_bipush (v := nI 32) hx hb d_Wo_sumInto_37 (by decide) ?_
      refine lv_lushr (v := lN (kw_c A B (i + 1))) hx hb d_Wo_sumInto_39 (by rw [kq_ushr32 (by omega), st1]) ?_
      refine lv_lstore_n hx hb d_Wo_sumInto_40 rfl hl (by decide) rfl (fun ls hl => ?_)
      have hl : lv_has ls 8 [(3, .long (lN (kw_c A B (i + 1)))), (6, .long (lN (kw_d A i + kw_d B i + kw_c A B i))), (5, .int (nI i)), (0, .ref r), (1, .ref a), (2, .ref b)] := hl
      refine lv_iinc (k := 2) (v := nI (i + 1)) hx hb d_Wo_sumInto_41 hl rfl (kq_inc i) (by decide) rfl (fun ls hl => ?_)
      have hl : lv_has ls 8 [(5, .int (nI (i + 1))), (3, .long (lN (kw_c A B (i + 1)))), (6, .long (lN (kw_d A i + kw_d B i + kw_c A B i))), (0, .ref r), (1, .ref a), (2, .ref b)] := hl
      refine lv_goto hx hb d_Wo_sumInto_44 rfl ?_
      refine ih (i + 1) (kw_s V i (kw_d (A + B) i)) ls _ (by omega) (kw_s_lt hV hi (kw_d_lt _ _)) ?_ (fun j h1 h2 => ?_) (t_lc (free := fun q => q = r) hlc rfl) (lv_sub hl [0, 1, 3, 4, 5] rfl)
      · rw [kw_s_lo _ _ _ (kw_d_lt _ _), hlo, ← kw_d_lo]
      · rw [kw_d_ws_ne _ (kw_d_lt _ _) (by omega)]
        exact hhi j (by omega) h2
end
set_option maxHeartbeats 4000000 in
set_option maxRecDepth 100000 in
theorem c_Wo_sumInto (l : Launch) (cL : ClassId) (H : Heap) (r a b R0 A B : Nat) (hR : R0 < kw_M 8) (hA : A < kw_M 8) (hB : B < kw_M 8) (hr : H[r]? = some (kq_L cL 8 R0)) : Met l y_Wo_sumInto w_Wo_sumInto ({ frames := 0, cells := 0, slots := 0, locals := 0 }) (kq_P [.ref r, .ref a, .ref b] H (fun U => ArrOfT U cL .long ∧ kq_sL U H a 8 A ∧ kq_sL U H b 8 B)) (kq_Q (fun v H1 => v = some (.long (lN ((A + B) / kw_M 8))) ∧ H1 = kq_set H r (kq_L cL 8 ((A + B) % kw_M 8)))) 0 0 (fun q => q = r) := by
  refine Met.ofW (cc := b_Wo_sumInto) (maxL := 8) (ret := (some .long)) (by decide) rfl ?_
  intro p e s m args below meth c s₁ B0 hml hv
  obtain ⟨rfl, hH, hT, hsa, hsb⟩ := hv
  have hx := B0.exec
  have hb := B0.bytes
  have hret := B0.returns
  have hts := atoms_spec (ws := w_Wo_sumInto) B0.pre
  have hown : s.vm.findClass R_Wo = some m.cls := findClass_of_methodNamed B0.named
  have hlocks := B0.notSynchronized
  rw [hH]
  have hl := lv_entry ([.ref r, .ref a, .ref b]) (n := 8) (Nat.le_of_ble_eq_true rfl)
  rw [lg_entry_eq]
  generalize (lg_sl ([.ref r, .ref a, .ref b]) ++ List.replicate (8 - (lg_sl ([.ref r, .ref a, .ref b])).length) Slot.unset).toArray = ls at hl ⊢
  have hl : lv_has ls 8 [(0, .ref r), (1, .ref a), (2, .ref b)] := hl
  refine lv_lconst (v := lN 0) hx hb d_Wo_sumInto_0 (by decide) ?_
  refine lv_lstore_n hx hb d_Wo_sumInto_1 rfl hl (by decide) rfl (fun ls hl => ?_)
  have hl : lv_has ls 8 [(3, .long (lN 0)), (0, .ref r), (1, .ref a), (2, .ref b)] := hl
  refine lv_iconst (v := nI 0) hx hb d_Wo_sumInto_2 (by decide) ?_
  refine lv_istore hx hb d_Wo_sumInto_3 hl (by decide) rfl (fun ls hl => ?_)
  have hl : lv_has ls 8 [(5, .int (nI 0)), (3, .long (lN 0)), (0, .ref r), (1, .ref a), (2, .ref b)] := hl
  refine kq_rH (kq_set_self hr).symm ?_
  refine lp_Wo_sumInto hx hb hts hown hT hsa hsb hr hB (fun ls locs hlc hl => ?_) 8 0 R0 ls [] rfl hR (by rw [kw_M_0, Nat.mod_one, Nat.mod_one]) (fun _ _ _ => rfl) (fun q h => by cases h) ?_
  · refine lv_lload_n hx hb d_Wo_sumInto_47 rfl (lv_at hl 0 rfl) ?_
    exact W.lret hx hb hret (fun t ht _ => ⟨_, rfl, by rw [kw_c_end hA hB], ht⟩) hlc d_Wo_sumInto_48
  · rw [kw_c_0]
    exact lv_sub hl [0, 1, 2, 3, 4] rfl
theorem d_Wo_differenceInto_0 : decode b_Wo_differenceInto 0 = .ok (.lconst 0, 1) := by decide +kernel
theorem d_Wo_differenceInto_1 : decode b_Wo_differenceInto 1 = .ok (.lstore_n 3, 1) := by decide +kernel
theorem d_Wo_differenceInto_2 : decode b_Wo_differenceInto 2 = .ok (.iconst 0, 1) := by decide +kernel
theorem d_Wo_differenceInto_3 : decode b_Wo_differenceInto 3 = .ok (.istore 5, 2) := by decide +kernel
theorem d_Wo_differenceInto_5 : decode b_Wo_differenceInto 5 = .ok (.iload 5, 2) := by decide +kernel
theorem d_Wo_differenceInto_7 : decode b_Wo_differenceInto 7 = .ok (.bipush 8, 2) := by decide +kernel
theorem d_Wo_differenceInto_9 : decode b_Wo_differenceInto 9 = .ok (.if_icmp .ge 38, 3) := by decide +kernel
theorem d_Wo_differenceInto_12 : decode b_Wo_differenceInto 12 = .ok (.aload_n 1, 1) := by decide +kernel
theorem d_Wo_differenceInto_13 : decode b_Wo_differenceInto 13 = .ok (.iload 5, 2) := by decide +kernel
theorem d_Wo_differenceInto_15 : decode b_Wo_differenceInto 15 = .ok (.laload, 1) := by decide +kernel
theorem d_Wo_differenceInto_16 : decode b_Wo_differenceInto 16 = .ok (.aload_n 2, 1) := by decide +kernel
theorem d_Wo_differenceInto_17 : decode b_Wo_differenceInto 17 = .ok (.iload 5, 2) := by decide +kernel
theorem d_Wo_differenceInto_19 : decode b_Wo_differenceInto 19 = .ok (.laload, 1) := by decide +kernel
theorem d_Wo_differenceInto_20 : decode b_Wo_differenceInto 20 = .ok (.lsub, 1) := by decide +kernel
theorem d_Wo_differenceInto_21 : decode b_Wo_differenceInto 21 = .ok (.lload_n 3, 1) := by decide +kernel
theorem d_Wo_differenceInto_22 : decode b_Wo_differenceInto 22 = .ok (.lsub, 1) := by decide +kernel
theorem d_Wo_differenceInto_23 : decode b_Wo_differenceInto 23 = .ok (.lstore 6, 2) := by decide +kernel
theorem d_Wo_differenceInto_25 : decode b_Wo_differenceInto 25 = .ok (.aload_n 0, 1) := by decide +kernel
theorem d_Wo_differenceInto_26 : decode b_Wo_differenceInto 26 = .ok (.iload 5, 2) := by decide +kernel
theorem d_Wo_differenceInto_28 : decode b_Wo_differenceInto 28 = .ok (.lload 6, 2) := by decide +kernel
theorem d_Wo_differenceInto_30 : decode b_Wo_differenceInto 30 = .ok (.ldc2_w 15, 3) := by decide +kernel
theorem d_Wo_differenceInto_33 : decode b_Wo_differenceInto 33 = .ok (.land, 1) := by decide +kernel
theorem d_Wo_differenceInto_34 : decode b_Wo_differenceInto 34 = .ok (.lastore, 1) := by decide +kernel
theorem d_Wo_differenceInto_35 : decode b_Wo_differenceInto 35 = .ok (.lload 6, 2) := by decide +kernel
theorem d_Wo_differenceInto_37 : decode b_Wo_differenceInto 37 = .ok (.bipush 63, 2) := by decide +kernel
theorem d_Wo_differenceInto_39 : decode b_Wo_differenceInto 39 = .ok (.lushr, 1) := by decide +kernel
theorem d_Wo_differenceInto_40 : decode b_Wo_differenceInto 40 = .ok (.lstore_n 3, 1) := by decide +kernel
theorem d_Wo_differenceInto_41 : decode b_Wo_differenceInto 41 = .ok (.iinc 5 1, 3) := by decide +kernel
theorem d_Wo_differenceInto_44 : decode b_Wo_differenceInto 44 = .ok (.goto (-39), 3) := by decide +kernel
theorem d_Wo_differenceInto_47 : decode b_Wo_differenceInto 47 = .ok (.lload_n 3, 1) := by decide +kernel
theorem d_Wo_differenceInto_48 : decode b_Wo_differenceInto 48 = .ok (.lreturn, 1) := by decide +kernel
section
variable {p : Program} {l : Launch} {e : Env} {R : Room} {s : State} {m : MethodId} {args : Array Value} {below : List Frame} {meth : Method} {c : Code} {cells slots : Nat} {Q : State → Prop}
set_option maxHeartbeats 4000000 in
set_option maxRecDepth 100000 in
theorem lp_Wo_differenceInto (hx : p.tables.exec = Jvm.exec) (hb : c.code = b_Wo_differenceInto) (hts : ∀ w ∈ w_Wo_differenceInto, w.before args s = true) (hown : s.vm.findClass R_Wo = some m.cls) {cL : ClassId} {H : Heap} {r a b R0 A B : Nat} (hT : ArrOfT s cL .long) (hsa : kq_sL s H a 8 A) (hsb : kq_sL s H b 8 B) (hr : H[r]? = some (kq_L cL 8 R0)) (hB : B < kw_M 8)
    (kk : ∀ (ls : Array Slot) (locs : List Loc), (∀ q ∈ locs, q.base = r) → lv_has ls 8 [(3, .long (lN (kw_b A B 8)))] → W p l e R s m args below meth c (kq_set H r (kq_L cL 8 (kw_sub A B))) locs cells slots Q (F0 m 47 ls [])) :
    ∀ (n i V : Nat) (ls : Array Slot) (locs : List Loc), i + n = 8 → V < kw_M 8 → V % kw_M i = kw_sub A B % kw_M i → (∀ j, i ≤ j → j < 8 → kw_d V j = kw_d R0 j) → (∀ q ∈ locs, q.base = r) → lv_has ls 8 [(5, .int (nI i)), (3, .long (lN (kw_b A B i))), (0, .ref r), (1, .ref a), (2, .ref b)] → W p l e R s m args below meth c (kq_set H r (kq_L cL 8 V)) locs cells slots Q (F0 m 5 ls []) := by
  intro n
  induction n with
  | zero =>
    intro i V ls locs hn hV hlo hhi hlc hl
    obtain rfl : i = 8 := by omega
    refine lv_iload hx hb d_Wo_differenceInto_5 (lv_at hl 0 rfl) ?_
    refine lv_bipush (v := nI 8) hx hb d_Wo_differenceInto_7 (by decide) ?_
    refine lv_icmp_ge hx hb d_Wo_differenceInto_9 rfl (fun hc => ?_) (fun hc => ?_)
    · have e : V = kw_sub A B := by
        rw [Nat.mod_eq_of_lt hV, Nat.mod_eq_of_lt (kw_sub_lt A B)] at hlo
        exact hlo
      rw [e]
      exact kk ls locs hlc (lv_sub hl [1] rfl)
    · exact absurd (nI_le (Nat.le_refl 8) (by decide)) hc
  | succ n ih =>
    intro i V ls locs hn hV hlo hhi hlc hl
    have hi : i < 8 := by omega
    obtain ⟨fa, ha1, ha2⟩ := kq_mixL hsa hT hr hhi hi
    obtain ⟨fb, hb1, hb2⟩ := kq_mixL hsb hT hr hhi hi
    have lA := kw_d_lt A i
    have lB := kw_d_lt B i
    have lC := kw_b_le A B i
    have st1 := kw_b_step A B i
    have st2 := kw_sub_word (A := A) hB hi
    refine lv_iload hx hb d_Wo_differenceInto_5 (lv_at hl 0 rfl) ?_
    refine lv_bipush (v := nI 8) hx hb d_Wo_differenceInto_7 (by decide) ?_
    refine lv_icmp_ge hx hb d_Wo_differenceInto_9 rfl (fun hc => ?_) (fun hc => ?_)
    · exact absurd hc (nI_ge hi (by decide))
    · refine lv_aload_n hx hb d_Wo_differenceInto_12 rfl (lv_at hl 3 rfl) ?_
      refine lv_iload hx hb d_Wo_differenceInto_13 (lv_at hl 0 rfl) ?_
      refine kq_lald hx hb (ha1) (hi) (by decide) (ha2) d_Wo_differenceInto_15 ?_
      refine lv_aload_n hx hb d_Wo_differenceInto_16 rfl (lv_at hl 4 rfl) ?_
      refine lv_iload hx hb d_Wo_differenceInto_17 (lv_at hl 0 rfl) ?_
      refine kq_lald hx hb (hb1) (hi) (by decide) (hb2) d_Wo_differenceInto_19 ?_
      refine lv_lsub hx hb d_Wo_differenceInto_20 ?_
      refine kq_rl (show (lN (kw_d A i)) - (lN (kw_d B i)) = lN (kw_d A i + 18446744073709551616 - kw_d B i) from kq_lsub (by omega)) ?_
      refine lv_lload_n hx hb d_Wo_differenceInto_21 rfl (lv_at hl 1 rfl) ?_
      refine lv_lsub hx hb d_Wo_differenceInto_22 ?_
      refine kq_rl (show (lN (kw_d A i + 18446744073709551616 - kw_d B i)) - (lN (kw_b A B i)) = lN (kw_d A i + 18446744073709551616 - kw_d B i + 18446744073709551616 - kw_b A B i) from kq_lsub (by omega)) ?_
      refine lv_lstore hx hb d_Wo_differenceInto_23 hl (by decide) rfl (fun ls hl => ?_)
      have hl : lv_has ls 8 [(6, .long (lN (kw_d A i + 18446744073709551616 - kw_d B i + 18446744073709551616 - kw_b A B i))), (5, .int (nI i)), (3, .long (lN (kw_b A B i))), (0, .ref r), (1, .ref a), (2, .ref b)] := hl
      refine lv_aload_n hx hb d_Wo_differenceInto_25 rfl (lv_at hl 3 rfl) ?_
      refine lv_iload hx hb d_Wo_differenceInto_26 (lv_at hl 1 rfl) ?_
      refine lv_lload hx hb d_Wo_differenceInto_28 (lv_at hl 0 rfl) ?_
      refine lv_ldc2 hx hb hown (v := lN 4294967295) (hts _ (List.mem_cons_of_mem _ kt_w180)) d_Wo_differenceInto_30 ?_
      refine lv_land hx hb d_Wo_differenceInto_33 ?_
      refine kq_rl (show (lN (kw_d A i + 18446744073709551616 - kw_d B i + 18446744073709551616 - kw_b A B i)) &&& (lN 4294967295) = lN (kw_d (kw_sub A B) i) from (by rw [kq_mask, ← st2]; congr 1; omega)) ?_
      refine kq_last hx hb (hT) (kq_set_at hr) (hi) (by decide) (kw_d_lt _ _) d_Wo_differenceInto_34 ?_
      refine kq_rH (kq_set_set _ _ _ _) ?_
      refine lv_lload hx hb d_Wo_differenceInto_35 (lv_at hl 0 rfl) ?_
      refine lv_bipush (v := nI 63) hx hb d_Wo_differenceInto_37 (by decide) ?_
      refine lv_lushr (v := lN (kw_b A B (i + 1))) hx hb d_Wo_differenceInto_39 (by rw [wb_mod, kq_ushr63 (Nat.mod_lt _ (by decide)), ← st1]; congr 1; split <;> omega) ?_
      refine lv_lstore_n hx hb d_Wo_differenceInto_40 rfl hl (by decide) rfl (fun ls hl => ?_)
      have hl : lv_has ls 8 [(3, .long (lN (kw_b A B (i + 1)))), (6, .long (lN (kw_d A i + 18446744073709551616 - kw_d B i + 18446744073709551616 - kw_b A B i))), (5, .int (nI i)), (0, .ref r), (1, .ref a), (2, .ref b)] := hl
      refine lv_iinc (k := 2) (v := nI (i + 1)) hx hb d_Wo_differenceInto_41 hl rfl (kq_inc i) (by decide) rfl (fun ls hl => ?_)
      have hl : lv_has ls 8 [(5, .int (nI (i + 1))), (3, .long (lN (kw_b A B (i + 1)))), (6, .long (lN (kw_d A i + 18446744073709551616 - kw_d B i + 18446744073709551616 - kw_b A B i))), (0, .ref r), (1, .ref a), (2, .ref b)] := hl
      refine lv_goto hx hb d_Wo_differenceInto_44 rfl ?_
      refine ih (i + 1) (kw_s V i (kw_d (kw_sub A B) i)) ls _ (by omega) (kw_s_lt hV hi (kw_d_lt _ _)) ?_ (fun j h1 h2 => ?_) (t_lc (free := fun q => q = r) hlc rfl) (lv_sub hl [0, 1, 3, 4, 5] rfl)
      · rw [kw_s_lo _ _ _ (kw_d_lt _ _), hlo, ← kw_d_lo]
      · rw [kw_d_ws_ne _ (kw_d_lt _ _) (by omega)]
        exact hhi j (by omega) h2
end
set_option maxHeartbeats 4000000 in
set_option maxRecDepth 100000 in
theorem c_Wo_differenceInto (l : Launch) (cL : ClassId) (H : Heap) (r a b R0 A B : Nat) (hR : R0 < kw_M 8) (hA : A < kw_M 8) (hB : B < kw_M 8) (hr : H[r]? = some (kq_L cL 8 R0)) : Met l y_Wo_differenceInto w_Wo_differenceInto ({ frames := 0, cells := 0, slots := 0, locals := 0 }) (kq_P [.ref r, .ref a, .ref b] H (fun U => ArrOfT U cL .long ∧ kq_sL U H a 8 A ∧ kq_sL U H b 8 B)) (kq_Q (fun v H1 => v = some (.long (lN (if A < B then 1 else 0))) ∧ H1 = kq_set H r (kq_L cL 8 (kw_sub A B)))) 0 0 (fun q => q = r) := by
  refine Met.ofW (cc := b_Wo_differenceInto) (maxL := 8) (ret := (some .long)) (by decide) rfl ?_
  intro p e s m args below meth c s₁ B0 hml hv
  obtain ⟨rfl, hH, hT, hsa, hsb⟩ := hv
  have hx := B0.exec
  have hb := B0.bytes
  have hret := B0.returns
  have hts := atoms_spec (ws := w_Wo_differenceInto) B0.pre
  have hown : s.vm.findClass R_Wo = some m.cls := findClass_of_methodNamed B0.named
  have hlocks := B0.notSynchronized
  rw [hH]
  have hl := lv_entry ([.ref r, .ref a, .ref b]) (n := 8) (Nat.le_of_ble_eq_true rfl)
  rw [lg_entry_eq]
  generalize (lg_sl ([.ref r, .ref a, .ref b]) ++ List.replicate (8 - (lg_sl ([.ref r, .ref a, .ref b])).length) Slot.unset).toArray = ls at hl ⊢
  have hl : lv_has ls 8 [(0, .ref r), (1, .ref a), (2, .ref b)] := hl
  refine lv_lconst (v := lN 0) hx hb d_Wo_differenceInto_0 (by decide) ?_
  refine lv_lstore_n hx hb d_Wo_differenceInto_1 rfl hl (by decide) rfl (fun ls hl => ?_)
  have hl : lv_has ls 8 [(3, .long (lN 0)), (0, .ref r), (1, .ref a), (2, .ref b)] := hl
  refine lv_iconst (v := nI 0) hx hb d_Wo_differenceInto_2 (by decide) ?_
  refine lv_istore hx hb d_Wo_differenceInto_3 hl (by decide) rfl (fun ls hl => ?_)
  have hl : lv_has ls 8 [(5, .int (nI 0)), (3, .long (lN 0)), (0, .ref r), (1, .ref a), (2, .ref b)] := hl
  refine kq_rH (kq_set_self hr).symm ?_
  refine lp_Wo_differenceInto hx hb hts hown hT hsa hsb hr hB (fun ls locs hlc hl => ?_) 8 0 R0 ls [] rfl hR (by rw [kw_M_0, Nat.mod_one, Nat.mod_one]) (fun _ _ _ => rfl) (fun q h => by cases h) ?_
  · refine lv_lload_n hx hb d_Wo_differenceInto_47 rfl (lv_at hl 0 rfl) ?_
    exact W.lret hx hb hret (fun t ht _ => ⟨_, rfl, by rw [kw_b_end hA hB], ht⟩) hlc d_Wo_differenceInto_48
  · rw [kw_b_0]
    exact lv_sub hl [0, 1, 2, 3, 4] rfl
end
section
/-! KeyCurve$Words: the reading methods and copy (own rows). -/
theorem kt_w225 : (Jvm.Cond.native ({ cls := "java/lang/System", name := "arraycopy", desc := "(Ljava/lang/Object;ILjava/lang/Object;II)V" } : Jvm.MethodName)) ∈ kt_all := kt_mem (i := 247) (by decide +kernel) (by decide +kernel)
theorem kq_z_t {P : Prop} [Decidable P] (h : P) : kq_z (decide P) = nI 1 := by rw [decide_eq_true h]; rfl
theorem kq_z_f {P : Prop} [Decidable P] (h : ¬ P) : kq_z (decide P) = nI 0 := by rw [decide_eq_false h]; rfl
theorem kq_z_ne {P : Prop} [Decidable P] : ¬ kq_z (decide P) = 0 ↔ P := by
  by_cases h : P
  · rw [kq_z_t h]
    exact ⟨fun _ => h, fun _ => by decide⟩
  · rw [kq_z_f h]
    exact ⟨fun q => absurd rfl q, fun q => absurd q h⟩
theorem kq_z_eq {P : Prop} [Decidable P] : kq_z (decide P) = 0 ↔ ¬ P := by
  by_cases h : P
  · rw [kq_z_t h]
    exact ⟨fun q => absurd q (by decide), fun q => absurd h q⟩
  · rw [kq_z_f h]
    exact ⟨fun _ => h, fun _ => rfl⟩
/-- a counter that falls from n - 1 to -1 -/
def kq_dn : Nat → Int32
  | 0 => -1
  | n + 1 => nI n
theorem kq_dn_dec : ∀ n : Nat, nI n + Int32.ofInt (-1) = kq_dn n
  | 0 => by decide
  | n + 1 => kq_dec n
theorem kw_d_0 (V : Nat) : kw_d V 0 = V % 4294967296 := by
  unfold kw_d
  rw [kw_M_0, Nat.div_one]
theorem kw_d_zero {V n : Nat} : V % kw_M (n + 1) = 0 ↔ V % kw_M n = 0 ∧ kw_d V n = 0 := by
  have hM := kw_M_pos n
  rw [kw_d_lo]
  constructor
  · intro h
    have h1 : kw_M n * kw_d V n = 0 := by omega
    rcases Nat.mul_eq_zero.mp h1 with q | q
    · omega
    · exact ⟨by omega, q⟩
  · intro h
    rw [h.1, h.2, Nat.mul_zero]
theorem kw_less {A B k : Nat} (h : A / kw_M (k + 1) = B / kw_M (k + 1)) (hne : kw_d A k ≠ kw_d B k) : A < B ↔ kw_d A k < kw_d B k := by
  have eA := kw_d_div A k
  have eB := kw_d_div B k
  constructor
  · intro q
    have q1 : A / kw_M k ≤ B / kw_M k := Nat.div_le_div_right (Nat.le_of_lt q)
    omega
  · intro q
    apply Classical.byContradiction
    intro n
    have q1 : B / kw_M k ≤ A / kw_M k := Nat.div_le_div_right (by omega)
    omega
theorem kw_bit (A b : Nat) : kw_d A (b / 32) / 2 ^ (b % 32) % 2 = A / 2 ^ b % 2 := by
  have hb : b = 32 * (b / 32) + b % 32 := (Nat.div_add_mod b 32).symm
  have hr : b % 32 < 32 := Nat.mod_lt _ (by decide)
  have e1 : A / 2 ^ b = A / kw_M (b / 32) / 2 ^ (b % 32) := by
    unfold kw_M
    rw [Nat.div_div_eq_div_mul, ← Nat.pow_add, ← hb]
  have e2 : (4294967296 : Nat) = 2 ^ (b % 32) * 2 ^ (32 - b % 32) := by
    rw [← Nat.pow_add, show b % 32 + (32 - b % 32) = 32 by omega]
  rw [e1]
  unfold kw_d
  rw [e2, Nat.mod_mul_right_div_self]
  apply Nat.mod_mod_of_dvd
  exact ⟨2 ^ (31 - b % 32), by rw [← Nat.pow_succ', Nat.succ_eq_add_one, show 31 - b % 32 + 1 = 32 - b % 32 by omega]⟩
theorem d_Wo_copy_0 : decode b_Wo_copy 0 = .ok (.aload_n 1, 1) := by decide +kernel
theorem d_Wo_copy_1 : decode b_Wo_copy 1 = .ok (.iconst 0, 1) := by decide +kernel
theorem d_Wo_copy_2 : decode b_Wo_copy 2 = .ok (.aload_n 0, 1) := by decide +kernel
theorem d_Wo_copy_3 : decode b_Wo_copy 3 = .ok (.iconst 0, 1) := by decide +kernel
theorem d_Wo_copy_4 : decode b_Wo_copy 4 = .ok (.bipush 8, 2) := by decide +kernel
theorem d_Wo_copy_6 : decode b_Wo_copy 6 = .ok (.invokestatic 9, 3) := by decide +kernel
theorem d_Wo_copy_9 : decode b_Wo_copy 9 = .ok (.return_, 1) := by decide +kernel
set_option maxHeartbeats 4000000 in
set_option maxRecDepth 100000 in
theorem c_Wo_copy (l : Launch) (cL : ClassId) (H : Heap) (r a R0 A : Nat) (hr : H[r]? = some (kq_L cL 8 R0)) : Met l y_Wo_copy w_Wo_copy ({ frames := 1, cells := 0, slots := 0, locals := 20 }) (kq_P [.ref r, .ref a] H (fun U => ArrOfT U cL .long ∧ kq_sL U H a 8 A)) (kq_Q (fun v H1 => v = none ∧ H1 = kq_set H r (kq_L cL 8 A))) 0 0 (fun q => q = r) := by
  refine Met.ofW (cc := b_Wo_copy) (maxL := 2) (ret := none) (by decide) rfl ?_
  intro p e s m args below meth c s₁ B0 hml hv
  obtain ⟨rfl, hH, hT, hsa⟩ := hv
  have hx := B0.exec
  have hb := B0.bytes
  have hret := B0.returns
  have hts := atoms_spec (ws := w_Wo_copy) B0.pre
  have hown : s.vm.findClass R_Wo = some m.cls := findClass_of_methodNamed B0.named
  have hlocks := B0.notSynchronized
  rw [hH]
  have hl := lv_entry ([.ref r, .ref a]) (n := 2) (Nat.le_of_ble_eq_true rfl)
  rw [lg_entry_eq]
  generalize (lg_sl ([.ref r, .ref a]) ++ List.replicate (2 - (lg_sl ([.ref r, .ref a])).length) Slot.unset).toArray = ls at hl ⊢
  have hl : lv_has ls 2 [(0, .ref r), (1, .ref a)] := hl
  refine lv_aload_n hx hb d_Wo_copy_0 rfl (lv_at hl 1 rfl) ?_
  refine lv_iconst (v := nI 0) hx hb d_Wo_copy_1 (by decide) ?_
  refine lv_aload_n hx hb d_Wo_copy_2 rfl (lv_at hl 0 rfl) ?_
  refine lv_iconst (v := nI 0) hx hb d_Wo_copy_3 (by decide) ?_
  refine lv_bipush (v := nI 8) hx hb d_Wo_copy_4 (by decide) ?_
  refine kq_copyL hx hb (by rw [hml]; exact hl.1.symm) hown (hts _ (List.mem_cons_of_mem _ kt_w223)) (hts _ (List.mem_cons_of_mem _ kt_w225)) (hts _ (List.mem_cons_of_mem _ kt_w224)) (hts _ (List.mem_cons_of_mem _ kt_w7)) hsa hT hr (Nat.le_of_ble_eq_true rfl) (Nat.le_of_ble_eq_true rfl) d_Wo_copy_6 (fun L hL => ?_)
  exact W.vret hx hb hret (fun t ht _ => ⟨_, rfl, rfl, ht⟩) hL d_Wo_copy_9
theorem d_Wo_isZero_0 : decode b_Wo_isZero 0 = .ok (.lconst 0, 1) := by decide +kernel
theorem d_Wo_isZero_1 : decode b_Wo_isZero 1 = .ok (.lstore_n 1, 1) := by decide +kernel
theorem d_Wo_isZero_2 : decode b_Wo_isZero 2 = .ok (.iconst 0, 1) := by decide +kernel
theorem d_Wo_isZero_3 : decode b_Wo_isZero 3 = .ok (.istore_n 3, 1) := by decide +kernel
theorem d_Wo_isZero_4 : decode b_Wo_isZero 4 = .ok (.iload_n 3, 1) := by decide +kernel
theorem d_Wo_isZero_5 : decode b_Wo_isZero 5 = .ok (.bipush 8, 2) := by decide +kernel
theorem d_Wo_isZero_7 : decode b_Wo_isZero 7 = .ok (.if_icmp .ge 15, 3) := by decide +kernel
theorem d_Wo_isZero_10 : decode b_Wo_isZero 10 = .ok (.lload_n 1, 1) := by decide +kernel
theorem d_Wo_isZero_11 : decode b_Wo_isZero 11 = .ok (.aload_n 0, 1) := by decide +kernel
theorem d_Wo_isZero_12 : decode b_Wo_isZero 12 = .ok (.iload_n 3, 1) := by decide +kernel
theorem d_Wo_isZero_13 : decode b_Wo_isZero 13 = .ok (.laload, 1) := by decide +kernel
theorem d_Wo_isZero_14 : decode b_Wo_isZero 14 = .ok (.lor, 1) := by decide +kernel
theorem d_Wo_isZero_15 : decode b_Wo_isZero 15 = .ok (.lstore_n 1, 1) := by decide +kernel
theorem d_Wo_isZero_16 : decode b_Wo_isZero 16 = .ok (.iinc 3 1, 3) := by decide +kernel
theorem d_Wo_isZero_19 : decode b_Wo_isZero 19 = .ok (.goto (-15), 3) := by decide +kernel
theorem d_Wo_isZero_22 : decode b_Wo_isZero 22 = .ok (.lload_n 1, 1) := by decide +kernel
theorem d_Wo_isZero_23 : decode b_Wo_isZero 23 = .ok (.lconst 0, 1) := by decide +kernel
theorem d_Wo_isZero_24 : decode b_Wo_isZero 24 = .ok (.lcmp, 1) := by decide +kernel
theorem d_Wo_isZero_25 : decode b_Wo_isZero 25 = .ok (.ifCond .ne 7, 3) := by decide +kernel
theorem d_Wo_isZero_28 : decode b_Wo_isZero 28 = .ok (.iconst 1, 1) := by decide +kernel
theorem d_Wo_isZero_29 : decode b_Wo_isZero 29 = .ok (.goto 4, 3) := by decide +kernel
theorem d_Wo_isZero_32 : decode b_Wo_isZero 32 = .ok (.iconst 0, 1) := by decide +kernel
theorem d_Wo_isZero_33 : decode b_Wo_isZero 33 = .ok (.ireturn, 1) := by decide +kernel
section
variable {p : Program} {l : Launch} {e : Env} {R : Room} {s : State} {m : MethodId} {args : Array Value} {below : List Frame} {meth : Method} {c : Code} {cells slots : Nat} {Q : State → Prop}
set_option maxHeartbeats 4000000 in
set_option maxRecDepth 100000 in
theorem lp_Wo_isZero (hx : p.tables.exec = Jvm.exec) (hb : c.code = b_Wo_isZero) {H : Heap} {locs : List Loc} {a A : Nat} (hsa : kq_sL s H a 8 A)
    (kk : ∀ (z : Nat) (ls : Array Slot), z < 4294967296 → (z = 0 ↔ A % kw_M 8 = 0) → lv_has ls 4 [(1, .long (lN z))] → W p l e R s m args below meth c H locs cells slots Q (F0 m 22 ls [])) :
    ∀ (n i z : Nat) (ls : Array Slot), i + n = 8 → z < 4294967296 → (z = 0 ↔ A % kw_M i = 0) → lv_has ls 4 [(3, .int (nI i)), (1, .long (lN z)), (0, .ref a)] → W p l e R s m args below meth c H locs cells slots Q (F0 m 4 ls []) := by
  intro n
  induction n with
  | zero =>
    intro i z ls hn hz hi0 hl
    obtain rfl : i = 8 := by omega
    refine lv_iload_n hx hb d_Wo_isZero_4 rfl (lv_at hl 0 rfl) ?_
    refine lv_bipush (v := nI 8) hx hb d_Wo_isZero_5 (by decide) ?_
    refine lv_icmp_ge hx hb d_Wo_isZero_7 rfl (fun hc => ?_) (fun hc => ?_)
    · exact kk z ls hz hi0 (lv_sub hl [1] rfl)
    · exact absurd (nI_le (Nat.le_refl 8) (by decide)) hc
  | succ n ih =>
    intro i z ls hn hz hi0 hl
    have hi : i < 8 := by omega
    have lA := kw_d_lt A i
    refine lv_iload_n hx hb d_Wo_isZero_4 rfl (lv_at hl 0 rfl) ?_
    refine lv_bipush (v := nI 8) hx hb d_Wo_isZero_5 (by decide) ?_
    refine lv_icmp_ge hx hb d_Wo_isZero_7 rfl (fun hc => ?_) (fun hc => ?_)
    · exact absurd hc (nI_ge hi (by decide))
    · refine lv_lload_n hx hb d_Wo_isZero_10 rfl (lv_at hl 1 rfl) ?_
      refine lv_aload_n hx hb d_Wo_isZero_11 rfl (lv_at hl 2 rfl) ?_
      refine lv_iload_n hx hb d_Wo_isZero_12 rfl (lv_at hl 0 rfl) ?_
      refine kq_lald hx hb (hsa) (hi) (by decide) (rfl) d_Wo_isZero_13 ?_
      refine lv_lor hx hb d_Wo_isZero_14 ?_
      refine kq_rl (show (lN z) ||| (lN (kw_d A i)) = lN (z ||| kw_d A i) from wb_or (by omega) (by omega)) ?_
      refine lv_lstore_n hx hb d_Wo_isZero_15 rfl hl (by decide) rfl (fun ls hl => ?_)
      have hl : lv_has ls 4 [(1, .long (lN (z ||| kw_d A i))), (3, .int (nI i)), (0, .ref a)] := hl
      refine lv_iinc (k := 1) (v := nI (i + 1)) hx hb d_Wo_isZero_16 hl rfl (kq_inc i) (by decide) rfl (fun ls hl => ?_)
      have hl : lv_has ls 4 [(3, .int (nI (i + 1))), (1, .long (lN (z ||| kw_d A i))), (0, .ref a)] := hl
      refine lv_goto hx hb d_Wo_isZero_19 rfl ?_
      refine ih (i + 1) (z ||| kw_d A i) ls (by omega) (Nat.or_lt_two_pow (n := 32) hz lA) ?_ (lv_sub hl [0, 1, 2] rfl)
      rw [kw_d_zero, Nat.or_eq_zero_iff, hi0]
end
set_option maxHeartbeats 4000000 in
set_option maxRecDepth 100000 in
theorem c_Wo_isZero (l : Launch) (H : Heap) (a A : Nat) (hA : A < kw_M 8) : Met l y_Wo_isZero w_Wo_isZero ({ frames := 0, cells := 0, slots := 0, locals := 0 }) (kq_P [.ref a] H (fun U => kq_sL U H a 8 A)) (kq_Q (fun v H1 => v = some (.int (kq_z (decide (A = 0)))) ∧ H1 = H)) 0 0 (fun _ => False) := by
  refine Met.ofW (cc := b_Wo_isZero) (maxL := 4) (ret := (some .boolean)) (by decide) rfl ?_
  intro p e s m args below meth c s₁ B0 hml hv
  obtain ⟨rfl, hH, hsa⟩ := hv
  have hx := B0.exec
  have hb := B0.bytes
  have hret := B0.returns
  have hts := atoms_spec (ws := w_Wo_isZero) B0.pre
  have hown : s.vm.findClass R_Wo = some m.cls := findClass_of_methodNamed B0.named
  have hlocks := B0.notSynchronized
  rw [hH]
  have hl := lv_entry ([.ref a]) (n := 4) (Nat.le_of_ble_eq_true rfl)
  rw [lg_entry_eq]
  generalize (lg_sl ([.ref a]) ++ List.replicate (4 - (lg_sl ([.ref a])).length) Slot.unset).toArray = ls at hl ⊢
  have hl : lv_has ls 4 [(0, .ref a)] := hl
  refine lv_lconst (v := lN 0) hx hb d_Wo_isZero_0 (by decide) ?_
  refine lv_lstore_n hx hb d_Wo_isZero_1 rfl hl (by decide) rfl (fun ls hl => ?_)
  have hl : lv_has ls 4 [(1, .long (lN 0)), (0, .ref a)] := hl
  refine lv_iconst (v := nI 0) hx hb d_Wo_isZero_2 (by decide) ?_
  refine lv_istore_n hx hb d_Wo_isZero_3 rfl hl (by decide) rfl (fun ls hl => ?_)
  have hl : lv_has ls 4 [(3, .int (nI 0)), (1, .long (lN 0)), (0, .ref a)] := hl
  refine lp_Wo_isZero hx hb hsa (fun z ls hz hz0 hl => ?_) 8 0 0 ls rfl (by decide) (by rw [kw_M_0, Nat.mod_one]) (lv_sub hl [0, 1, 2] rfl)
  rw [Nat.mod_eq_of_lt hA] at hz0
  refine lv_lload_n hx hb d_Wo_isZero_22 rfl (lv_at hl 0 rfl) ?_
  refine lv_lconst (v := lN 0) hx hb d_Wo_isZero_23 (by decide) ?_
  refine W.lcmp hx hb d_Wo_isZero_24 ?_
  refine lv_if_ne hx hb d_Wo_isZero_25 rfl (fun hc => ?_) (fun hc => ?_)
  · have hn : ¬ A = 0 := fun q => hc ((kq_cmp_eq (by omega) (by decide)).mpr (hz0.mpr q))
    refine lv_iconst (v := nI 0) hx hb d_Wo_isZero_32 (by decide) ?_
    exact W.zret hx hb hret rfl (fun t ht _ => ⟨_, rfl, by rw [kq_z_f hn], ht⟩) (fun q h => by cases h) d_Wo_isZero_33
  · have hp : A = 0 := hz0.mp ((kq_cmp_eq (by omega) (by decide)).mp hc)
    refine lv_iconst (v := nI 1) hx hb d_Wo_isZero_28 (by decide) ?_
    refine lv_goto hx hb d_Wo_isZero_29 rfl ?_
    exact W.zret hx hb hret rfl (fun t ht _ => ⟨_, rfl, by rw [kq_z_t hp], ht⟩) (fun q h => by cases h) d_Wo_isZero_33
theorem d_Wo_areEqual_0 : decode b_Wo_areEqual 0 = .ok (.iconst 0, 1) := by decide +kernel
theorem d_Wo_areEqual_1 : decode b_Wo_areEqual 1 = .ok (.istore_n 2, 1) := by decide +kernel
theorem d_Wo_areEqual_2 : decode b_Wo_areEqual 2 = .ok (.iload_n 2, 1) := by decide +kernel
theorem d_Wo_areEqual_3 : decode b_Wo_areEqual 3 = .ok (.bipush 8, 2) := by decide +kernel
theorem d_Wo_areEqual_5 : decode b_Wo_areEqual 5 = .ok (.if_icmp .ge 21, 3) := by decide +kernel
theorem d_Wo_areEqual_8 : decode b_Wo_areEqual 8 = .ok (.aload_n 0, 1) := by decide +kernel
theorem d_Wo_areEqual_9 : decode b_Wo_areEqual 9 = .ok (.iload_n 2, 1) := by decide +kernel
theorem d_Wo_areEqual_10 : decode b_Wo_areEqual 10 = .ok (.laload, 1) := by decide +kernel
theorem d_Wo_areEqual_11 : decode b_Wo_areEqual 11 = .ok (.aload_n 1, 1) := by decide +kernel
theorem d_Wo_areEqual_12 : decode b_Wo_areEqual 12 = .ok (.iload_n 2, 1) := by decide +kernel
theorem d_Wo_areEqual_13 : decode b_Wo_areEqual 13 = .ok (.laload, 1) := by decide +kernel
theorem d_Wo_areEqual_14 : decode b_Wo_areEqual 14 = .ok (.lcmp, 1) := by decide +kernel
theorem d_Wo_areEqual_15 : decode b_Wo_areEqual 15 = .ok (.ifCond .eq 5, 3) := by decide +kernel
theorem d_Wo_areEqual_18 : decode b_Wo_areEqual 18 = .ok (.iconst 0, 1) := by decide +kernel
theorem d_Wo_areEqual_19 : decode b_Wo_areEqual 19 = .ok (.ireturn, 1) := by decide +kernel
theorem d_Wo_areEqual_20 : decode b_Wo_areEqual 20 = .ok (.iinc 2 1, 3) := by decide +kernel
theorem d_Wo_areEqual_23 : decode b_Wo_areEqual 23 = .ok (.goto (-21), 3) := by decide +kernel
theorem d_Wo_areEqual_26 : decode b_Wo_areEqual 26 = .ok (.iconst 1, 1) := by decide +kernel
theorem d_Wo_areEqual_27 : decode b_Wo_areEqual 27 = .ok (.ireturn, 1) := by decide +kernel
section
variable {p : Program} {l : Launch} {e : Env} {R : Room} {s : State} {m : MethodId} {args : Array Value} {below : List Frame} {meth : Method} {c : Code} {cells slots : Nat} {Q : State → Prop}
set_option maxHeartbeats 4000000 in
set_option maxRecDepth 100000 in
theorem lp_Wo_areEqual (hx : p.tables.exec = Jvm.exec) (hb : c.code = b_Wo_areEqual) {H : Heap} {locs : List Loc} {a b A B : Nat} (hsa : kq_sL s H a 8 A) (hsb : kq_sL s H b 8 B)
    (k0 : ∀ ls : Array Slot, A ≠ B → W p l e R s m args below meth c H locs cells slots Q (F0 m 18 ls [])) (k1 : ∀ ls : Array Slot, A % kw_M 8 = B % kw_M 8 → W p l e R s m args below meth c H locs cells slots Q (F0 m 26 ls [])) :
    ∀ (n i : Nat) (ls : Array Slot), i + n = 8 → A % kw_M i = B % kw_M i → lv_has ls 3 [(2, .int (nI i)), (0, .ref a), (1, .ref b)] → W p l e R s m args below meth c H locs cells slots Q (F0 m 2 ls []) := by
  intro n
  induction n with
  | zero =>
    intro i ls hn hi0 hl
    obtain rfl : i = 8 := by omega
    refine lv_iload_n hx hb d_Wo_areEqual_2 rfl (lv_at hl 0 rfl) ?_
    refine lv_bipush (v := nI 8) hx hb d_Wo_areEqual_3 (by decide) ?_
    refine lv_icmp_ge hx hb d_Wo_areEqual_5 rfl (fun hc => ?_) (fun hc => ?_)
    · exact k1 ls hi0
    · exact absurd (nI_le (Nat.le_refl 8) (by decide)) hc
  | succ n ih =>
    intro i ls hn hi0 hl
    have hi : i < 8 := by omega
    have lA := kw_d_lt A i
    have lB := kw_d_lt B i
    refine lv_iload_n hx hb d_Wo_areEqual_2 rfl (lv_at hl 0 rfl) ?_
    refine lv_bipush (v := nI 8) hx hb d_Wo_areEqual_3 (by decide) ?_
    refine lv_icmp_ge hx hb d_Wo_areEqual_5 rfl (fun hc => ?_) (fun hc => ?_)
    · exact absurd hc (nI_ge hi (by decide))
    · refine lv_aload_n hx hb d_Wo_areEqual_8 rfl (lv_at hl 1 rfl) ?_
      refine lv_iload_n hx hb d_Wo_areEqual_9 rfl (lv_at hl 0 rfl) ?_
      refine kq_lald hx hb (hsa) (hi) (by decide) (rfl) d_Wo_areEqual_10 ?_
      refine lv_aload_n hx hb d_Wo_areEqual_11 rfl (lv_at hl 2 rfl) ?_
      refine lv_iload_n hx hb d_Wo_areEqual_12 rfl (lv_at hl 0 rfl) ?_
      refine kq_lald hx hb (hsb) (hi) (by decide) (rfl) d_Wo_areEqual_13 ?_
      refine W.lcmp hx hb d_Wo_areEqual_14 ?_
      refine lv_if_eq hx hb d_Wo_areEqual_15 rfl (fun hc => ?_) (fun hc => ?_)
      · have hw := (kq_cmp_eq (by omega) (by omega)).mp hc
        refine lv_iinc (k := 0) (v := nI (i + 1)) hx hb d_Wo_areEqual_20 hl rfl (kq_inc i) (by decide) rfl (fun ls hl => ?_)
        have hl : lv_has ls 3 [(2, .int (nI (i + 1))), (0, .ref a), (1, .ref b)] := hl
        refine lv_goto hx hb d_Wo_areEqual_23 rfl ?_
        exact ih (i + 1) ls (by omega) (by rw [kw_d_lo, kw_d_lo, hi0, hw]) (lv_sub hl [0, 1, 2] rfl)
      · exact k0 ls (fun q => hc ((kq_cmp_eq (by omega) (by omega)).mpr (by rw [q])))
end
set_option maxHeartbeats 4000000 in
set_option maxRecDepth 100000 in
theorem c_Wo_areEqual (l : Launch) (H : Heap) (a b A B : Nat) (hA : A < kw_M 8) (hB : B < kw_M 8) : Met l y_Wo_areEqual w_Wo_areEqual ({ frames := 0, cells := 0, slots := 0, locals := 0 }) (kq_P [.ref a, .ref b] H (fun U => kq_sL U H a 8 A ∧ kq_sL U H b 8 B)) (kq_Q (fun v H1 => v = some (.int (kq_z (decide (A = B)))) ∧ H1 = H)) 0 0 (fun _ => False) := by
  refine Met.ofW (cc := b_Wo_areEqual) (maxL := 3) (ret := (some .boolean)) (by decide) rfl ?_
  intro p e s m args below meth c s₁ B0 hml hv
  obtain ⟨rfl, hH, hsa, hsb⟩ := hv
  have hx := B0.exec
  have hb := B0.bytes
  have hret := B0.returns
  have hts := atoms_spec (ws := w_Wo_areEqual) B0.pre
  have hown : s.vm.findClass R_Wo = some m.cls := findClass_of_methodNamed B0.named
  have hlocks := B0.notSynchronized
  rw [hH]
  have hl := lv_entry ([.ref a, .ref b]) (n := 3) (Nat.le_of_ble_eq_true rfl)
  rw [lg_entry_eq]
  generalize (lg_sl ([.ref a, .ref b]) ++ List.replicate (3 - (lg_sl ([.ref a, .ref b])).length) Slot.unset).toArray = ls at hl ⊢
  have hl : lv_has ls 3 [(0, .ref a), (1, .ref b)] := hl
  refine lv_iconst (v := nI 0) hx hb d_Wo_areEqual_0 (by decide) ?_
  refine lv_istore_n hx hb d_Wo_areEqual_1 rfl hl (by decide) rfl (fun ls hl => ?_)
  have hl : lv_has ls 3 [(2, .int (nI 0)), (0, .ref a), (1, .ref b)] := hl
  refine lp_Wo_areEqual hx hb hsa hsb (fun ls hne => ?_) (fun ls he => ?_) 8 0 ls rfl (by rw [kw_M_0, Nat.mod_one, Nat.mod_one]) (lv_sub hl [0, 1, 2] rfl)
  · refine lv_iconst (v := nI 0) hx hb d_Wo_areEqual_18 (by decide) ?_
    exact W.zret hx hb hret rfl (fun t ht _ => ⟨_, rfl, by rw [kq_z_f hne], ht⟩) (fun q h => by cases h) d_Wo_areEqual_19
  · rw [Nat.mod_eq_of_lt hA, Nat.mod_eq_of_lt hB] at he
    refine lv_iconst (v := nI 1) hx hb d_Wo_areEqual_26 (by decide) ?_
    exact W.zret hx hb hret rfl (fun t ht _ => ⟨_, rfl, by rw [kq_z_t he], ht⟩) (fun q h => by cases h) d_Wo_areEqual_27
theorem d_Wo_isBelow_0 : decode b_Wo_isBelow 0 = .ok (.bipush 7, 2) := by decide +kernel
theorem d_Wo_isBelow_2 : decode b_Wo_isBelow 2 = .ok (.istore_n 2, 1) := by decide +kernel
theorem d_Wo_isBelow_3 : decode b_Wo_isBelow 3 = .ok (.iload_n 2, 1) := by decide +kernel
theorem d_Wo_isBelow_4 : decode b_Wo_isBelow 4 = .ok (.ifCond .lt 35, 3) := by decide +kernel
theorem d_Wo_isBelow_7 : decode b_Wo_isBelow 7 = .ok (.aload_n 0, 1) := by decide +kernel
theorem d_Wo_isBelow_8 : decode b_Wo_isBelow 8 = .ok (.iload_n 2, 1) := by decide +kernel
theorem d_Wo_isBelow_9 : decode b_Wo_isBelow 9 = .ok (.laload, 1) := by decide +kernel
theorem d_Wo_isBelow_10 : decode b_Wo_isBelow 10 = .ok (.aload_n 1, 1) := by decide +kernel
theorem d_Wo_isBelow_11 : decode b_Wo_isBelow 11 = .ok (.iload_n 2, 1) := by decide +kernel
theorem d_Wo_isBelow_12 : decode b_Wo_isBelow 12 = .ok (.laload, 1) := by decide +kernel
theorem d_Wo_isBelow_13 : decode b_Wo_isBelow 13 = .ok (.lcmp, 1) := by decide +kernel
theorem d_Wo_isBelow_14 : decode b_Wo_isBelow 14 = .ok (.ifCond .eq 19, 3) := by decide +kernel
theorem d_Wo_isBelow_17 : decode b_Wo_isBelow 17 = .ok (.aload_n 0, 1) := by decide +kernel
theorem d_Wo_isBelow_18 : decode b_Wo_isBelow 18 = .ok (.iload_n 2, 1) := by decide +kernel
theorem d_Wo_isBelow_19 : decode b_Wo_isBelow 19 = .ok (.laload, 1) := by decide +kernel
theorem d_Wo_isBelow_20 : decode b_Wo_isBelow 20 = .ok (.aload_n 1, 1) := by decide +kernel
theorem d_Wo_isBelow_21 : decode b_Wo_isBelow 21 = .ok (.iload_n 2, 1) := by decide +kernel
theorem d_Wo_isBelow_22 : decode b_Wo_isBelow 22 = .ok (.laload, 1) := by decide +kernel
theorem d_Wo_isBelow_23 : decode b_Wo_isBelow 23 = .ok (.lcmp, 1) := by decide +kernel
theorem d_Wo_isBelow_24 : decode b_Wo_isBelow 24 = .ok (.ifCond .ge 7, 3) := by decide +kernel
theorem d_Wo_isBelow_27 : decode b_Wo_isBelow 27 = .ok (.iconst 1, 1) := by decide +kernel
theorem d_Wo_isBelow_28 : decode b_Wo_isBelow 28 = .ok (.goto 4, 3) := by decide +kernel
theorem d_Wo_isBelow_31 : decode b_Wo_isBelow 31 = .ok (.iconst 0, 1) := by decide +kernel
theorem d_Wo_isBelow_32 : decode b_Wo_isBelow 32 = .ok (.ireturn, 1) := by decide +kernel
theorem d_Wo_isBelow_33 : decode b_Wo_isBelow 33 = .ok (.iinc 2 (-1), 3) := by decide +kernel
theorem d_Wo_isBelow_36 : decode b_Wo_isBelow 36 = .ok (.goto (-33), 3) := by decide +kernel
theorem d_Wo_isBelow_39 : decode b_Wo_isBelow 39 = .ok (.iconst 0, 1) := by decide +kernel
theorem d_Wo_isBelow_40 : decode b_Wo_isBelow 40 = .ok (.ireturn, 1) := by decide +kernel
section
variable {p : Program} {l : Launch} {e : Env} {R : Room} {s : State} {m : MethodId} {args : Array Value} {below : List Frame} {meth : Method} {c : Code} {cells slots : Nat} {Q : State → Prop}
set_option maxHeartbeats 4000000 in
set_option maxRecDepth 100000 in
theorem lp_Wo_isBelow (hx : p.tables.exec = Jvm.exec) (hb : c.code = b_Wo_isBelow) {H : Heap} {locs : List Loc} {a b A B : Nat} (hsa : kq_sL s H a 8 A) (hsb : kq_sL s H b 8 B)
    (k0 : ∀ (ls : Array Slot) (v : Int32), v = kq_z (decide (A < B)) → W p l e R s m args below meth c H locs cells slots Q (F0 m 32 ls [.int v])) (k1 : ∀ ls : Array Slot, A = B → W p l e R s m args below meth c H locs cells slots Q (F0 m 39 ls [])) :
    ∀ (n : Nat) (ls : Array Slot), n ≤ 8 → A / kw_M n = B / kw_M n → lv_has ls 3 [(2, .int (kq_dn n)), (0, .ref a), (1, .ref b)] → W p l e R s m args below meth c H locs cells slots Q (F0 m 3 ls []) := by
  intro n
  induction n with
  | zero =>
    intro ls hn hd hl
    refine lv_iload_n hx hb d_Wo_isBelow_3 rfl (lv_at hl 0 rfl) ?_
    refine lv_if_lt hx hb d_Wo_isBelow_4 rfl (fun hc => ?_) (fun hc => ?_)
    · rw [kw_M_0, Nat.div_one, Nat.div_one] at hd
      exact k1 ls hd
    · exact absurd (by decide) hc
  | succ n ih =>
    intro ls hn hd hl
    have hi : n < 8 := by omega
    have lA := kw_d_lt A n
    have lB := kw_d_lt B n
    have hl : lv_has ls 3 [(2, .int (nI n)), (0, .ref a), (1, .ref b)] := hl
    refine lv_iload_n hx hb d_Wo_isBelow_3 rfl (lv_at hl 0 rfl) ?_
    refine lv_if_lt hx hb d_Wo_isBelow_4 rfl (fun hc => ?_) (fun hc => ?_)
    · exact absurd hc (nI_pos (by omega))
    · refine lv_aload_n hx hb d_Wo_isBelow_7 rfl (lv_at hl 1 rfl) ?_
      refine lv_iload_n hx hb d_Wo_isBelow_8 rfl (lv_at hl 0 rfl) ?_
      refine kq_lald hx hb (hsa) (hi) (by decide) (rfl) d_Wo_isBelow_9 ?_
      refine lv_aload_n hx hb d_Wo_isBelow_10 rfl (lv_at hl 2 rfl) ?_
      refine lv_iload_n hx hb d_Wo_isBelow_11 rfl (lv_at hl 0 rfl) ?_
      refine kq_lald hx hb (hsb) (hi) (by decide) (rfl) d_Wo_isBelow_12 ?_
      refine W.lcmp hx hb d_Wo_isBelow_13 ?_
      refine lv_if_eq hx hb d_Wo_isBelow_14 rfl (fun hc => ?_) (fun hne => ?_)
      · have hw := (kq_cmp_eq (by omega) (by omega)).mp hc
        refine lv_iinc (k := 0) (v := kq_dn n) hx hb d_Wo_isBelow_33 hl rfl (kq_dn_dec n) (by decide) rfl (fun ls hl => ?_)
        have hl : lv_has ls 3 [(2, .int (kq_dn n)), (0, .ref a), (1, .ref b)] := hl
        refine lv_goto hx hb d_Wo_isBelow_36 rfl ?_
        exact ih ls (by omega) (by rw [kw_d_div, kw_d_div B, hd, hw]) (lv_sub hl [0, 1, 2] rfl)
      · have hw : kw_d A n ≠ kw_d B n := fun q => hne ((kq_cmp_eq (by omega) (by omega)).mpr q)
        have hlt := kw_less hd hw
        refine lv_aload_n hx hb d_Wo_isBelow_17 rfl (lv_at hl 1 rfl) ?_
        refine lv_iload_n hx hb d_Wo_isBelow_18 rfl (lv_at hl 0 rfl) ?_
        refine kq_lald hx hb (hsa) (hi) (by decide) (rfl) d_Wo_isBelow_19 ?_
        refine lv_aload_n hx hb d_Wo_isBelow_20 rfl (lv_at hl 2 rfl) ?_
        refine lv_iload_n hx hb d_Wo_isBelow_21 rfl (lv_at hl 0 rfl) ?_
        refine kq_lald hx hb (hsb) (hi) (by decide) (rfl) d_Wo_isBelow_22 ?_
        refine W.lcmp hx hb d_Wo_isBelow_23 ?_
        refine lv_if_ge hx hb d_Wo_isBelow_24 rfl (fun hc => ?_) (fun hc => ?_)
        · have hn3 : ¬ A < B := fun q => absurd ((kq_cmp_lt (by omega) (by omega)).mpr (hlt.mp q)) (Int32.not_lt.mpr hc)
          refine lv_iconst (v := nI 0) hx hb d_Wo_isBelow_31 (by decide) ?_
          exact k0 ls _ (kq_z_f hn3).symm
        · have hp3 : A < B := hlt.mpr ((kq_cmp_lt (by omega) (by omega)).mp (Int32.not_le.mp hc))
          refine lv_iconst (v := nI 1) hx hb d_Wo_isBelow_27 (by decide) ?_
          refine lv_goto hx hb d_Wo_isBelow_28 rfl ?_
          exact k0 ls _ (kq_z_t hp3).symm
end
set_option maxHeartbeats 4000000 in
set_option maxRecDepth 100000 in
theorem c_Wo_isBelow (l : Launch) (H : Heap) (a b A B : Nat) (hA : A < kw_M 8) (hB : B < kw_M 8) : Met l y_Wo_isBelow w_Wo_isBelow ({ frames := 0, cells := 0, slots := 0, locals := 0 }) (kq_P [.ref a, .ref b] H (fun U => kq_sL U H a 8 A ∧ kq_sL U H b 8 B)) (kq_Q (fun v H1 => v = some (.int (kq_z (decide (A < B)))) ∧ H1 = H)) 0 0 (fun _ => False) := by
  refine Met.ofW (cc := b_Wo_isBelow) (maxL := 3) (ret := (some .boolean)) (by decide) rfl ?_
  intro p e s m args below meth c s₁ B0 hml hv
  obtain ⟨rfl, hH, hsa, hsb⟩ := hv
  have hx := B0.exec
  have hb := B0.bytes
  have hret := B0.returns
  have hts := atoms_spec (ws := w_Wo_isBelow) B0.pre
  have hown : s.vm.findClass R_Wo = some m.cls := findClass_of_methodNamed B0.named
  have hlocks := B0.notSynchronized
  rw [hH]
  have hl := lv_entry ([.ref a, .ref b]) (n := 3) (Nat.le_of_ble_eq_true rfl)
  rw [lg_entry_eq]
  generalize (lg_sl ([.ref a, .ref b]) ++ List.replicate (3 - (lg_sl ([.ref a, .ref b])).length) Slot.unset).toArray = ls at hl ⊢
  have hl : lv_has ls 3 [(0, .ref a), (1, .ref b)] := hl
  refine lv_bipush (v := nI 7) hx hb d_Wo_isBelow_0 (by decide) ?_
  refine lv_istore_n hx hb d_Wo_isBelow_2 rfl hl (by decide) rfl (fun ls hl => ?_)
  have hl : lv_has ls 3 [(2, .int (nI 7)), (0, .ref a), (1, .ref b)] := hl
  refine lp_Wo_isBelow hx hb hsa hsb (fun ls v hv => ?_) (fun ls he => ?_) 8 ls (Nat.le_refl 8) (by rw [Nat.div_eq_of_lt hA, Nat.div_eq_of_lt hB]) (lv_sub hl [0, 1, 2] rfl)
  · refine W.zret hx hb hret ?_ (fun t ht _ => ⟨_, rfl, by rw [hv], ht⟩) (fun q h => by cases h) d_Wo_isBelow_32
    rw [hv]
    unfold kq_z
    split <;> rfl
  · have hn3 : ¬ A < B := by omega
    refine lv_iconst (v := nI 0) hx hb d_Wo_isBelow_39 (by decide) ?_
    exact W.zret hx hb hret rfl (fun t ht _ => ⟨_, rfl, by rw [kq_z_f hn3], ht⟩) (fun q h => by cases h) d_Wo_isBelow_40
theorem d_Wo_isOdd_0 : decode b_Wo_isOdd 0 = .ok (.aload_n 0, 1) := by decide +kernel
theorem d_Wo_isOdd_1 : decode b_Wo_isOdd 1 = .ok (.iconst 0, 1) := by decide +kernel
theorem d_Wo_isOdd_2 : decode b_Wo_isOdd 2 = .ok (.laload, 1) := by decide +kernel
theorem d_Wo_isOdd_3 : decode b_Wo_isOdd 3 = .ok (.lconst 1, 1) := by decide +kernel
theorem d_Wo_isOdd_4 : decode b_Wo_isOdd 4 = .ok (.land, 1) := by decide +kernel
theorem d_Wo_isOdd_5 : decode b_Wo_isOdd 5 = .ok (.lconst 0, 1) := by decide +kernel
theorem d_Wo_isOdd_6 : decode b_Wo_isOdd 6 = .ok (.lcmp, 1) := by decide +kernel
theorem d_Wo_isOdd_7 : decode b_Wo_isOdd 7 = .ok (.ifCond .eq 7, 3) := by decide +kernel
theorem d_Wo_isOdd_10 : decode b_Wo_isOdd 10 = .ok (.iconst 1, 1) := by decide +kernel
theorem d_Wo_isOdd_11 : decode b_Wo_isOdd 11 = .ok (.goto 4, 3) := by decide +kernel
theorem d_Wo_isOdd_14 : decode b_Wo_isOdd 14 = .ok (.iconst 0, 1) := by decide +kernel
theorem d_Wo_isOdd_15 : decode b_Wo_isOdd 15 = .ok (.ireturn, 1) := by decide +kernel
set_option maxHeartbeats 4000000 in
set_option maxRecDepth 100000 in
theorem c_Wo_isOdd (l : Launch) (H : Heap) (a A : Nat) : Met l y_Wo_isOdd w_Wo_isOdd ({ frames := 0, cells := 0, slots := 0, locals := 0 }) (kq_P [.ref a] H (fun U => kq_sL U H a 8 A)) (kq_Q (fun v H1 => v = some (.int (kq_z (decide (A % 2 = 1)))) ∧ H1 = H)) 0 0 (fun _ => False) := by
  refine Met.ofW (cc := b_Wo_isOdd) (maxL := 1) (ret := (some .boolean)) (by decide) rfl ?_
  intro p e s m args below meth c s₁ B0 hml hv
  obtain ⟨rfl, hH, hsa⟩ := hv
  have hx := B0.exec
  have hb := B0.bytes
  have hret := B0.returns
  have hts := atoms_spec (ws := w_Wo_isOdd) B0.pre
  have hown : s.vm.findClass R_Wo = some m.cls := findClass_of_methodNamed B0.named
  have hlocks := B0.notSynchronized
  rw [hH]
  have hl := lv_entry ([.ref a]) (n := 1) (Nat.le_of_ble_eq_true rfl)
  rw [lg_entry_eq]
  generalize (lg_sl ([.ref a]) ++ List.replicate (1 - (lg_sl ([.ref a])).length) Slot.unset).toArray = ls at hl ⊢
  have hl : lv_has ls 1 [(0, .ref a)] := hl
  refine lv_aload_n hx hb d_Wo_isOdd_0 rfl (lv_at hl 0 rfl) ?_
  refine lv_iconst (v := nI 0) hx hb d_Wo_isOdd_1 (by decide) ?_
  refine kq_lald hx hb (hsa) ((by decide)) (by decide) (rfl) d_Wo_isOdd_2 ?_
  refine lv_lconst (v := lN 1) hx hb d_Wo_isOdd_3 (by decide) ?_
  refine lv_land hx hb d_Wo_isOdd_4 ?_
  refine kq_rl (show (lN (kw_d A 0)) &&& (lN 1) = lN (A % 2) from (by rw [show lN 1 = 1 from rfl, wb_a1 (by have := kw_d_lt A 0; omega), kw_d_0]; congr 1; omega)) ?_
  refine lv_lconst (v := lN 0) hx hb d_Wo_isOdd_5 (by decide) ?_
  refine W.lcmp hx hb d_Wo_isOdd_6 ?_
  refine lv_if_eq hx hb d_Wo_isOdd_7 rfl (fun hc => ?_) (fun hc => ?_)
  · have hn : ¬ A % 2 = 1 := by
      have := (kq_cmp_eq (by omega) (by decide)).mp hc
      omega
    refine lv_iconst (v := nI 0) hx hb d_Wo_isOdd_14 (by decide) ?_
    exact W.zret hx hb hret rfl (fun t ht _ => ⟨_, rfl, by rw [kq_z_f hn], ht⟩) (fun q h => by cases h) d_Wo_isOdd_15
  · have hp : A % 2 = 1 := by
      have : ¬ A % 2 = 0 := fun q => hc ((kq_cmp_eq (by omega) (by decide)).mpr q)
      omega
    refine lv_iconst (v := nI 1) hx hb d_Wo_isOdd_10 (by decide) ?_
    refine lv_goto hx hb d_Wo_isOdd_11 rfl ?_
    exact W.zret hx hb hret rfl (fun t ht _ => ⟨_, rfl, by rw [kq_z_t hp], ht⟩) (fun q h => by cases h) d_Wo_isOdd_15
theorem d_Wo_hasBit_0 : decode b_Wo_hasBit 0 = .ok (.aload_n 0, 1) := by decide +kernel
theorem d_Wo_hasBit_1 : decode b_Wo_hasBit 1 = .ok (.iload_n 1, 1) := by decide +kernel
theorem d_Wo_hasBit_2 : decode b_Wo_hasBit 2 = .ok (.bipush 32, 2) := by decide +kernel
theorem d_Wo_hasBit_4 : decode b_Wo_hasBit 4 = .ok (.idiv, 1) := by decide +kernel
theorem d_Wo_hasBit_5 : decode b_Wo_hasBit 5 = .ok (.laload, 1) := by decide +kernel
theorem d_Wo_hasBit_6 : decode b_Wo_hasBit 6 = .ok (.iload_n 1, 1) := by decide +kernel
theorem d_Wo_hasBit_7 : decode b_Wo_hasBit 7 = .ok (.bipush 32, 2) := by decide +kernel
theorem d_Wo_hasBit_9 : decode b_Wo_hasBit 9 = .ok (.irem, 1) := by decide +kernel
theorem d_Wo_hasBit_10 : decode b_Wo_hasBit 10 = .ok (.lushr, 1) := by decide +kernel
theorem d_Wo_hasBit_11 : decode b_Wo_hasBit 11 = .ok (.lconst 1, 1) := by decide +kernel
theorem d_Wo_hasBit_12 : decode b_Wo_hasBit 12 = .ok (.land, 1) := by decide +kernel
theorem d_Wo_hasBit_13 : decode b_Wo_hasBit 13 = .ok (.lconst 0, 1) := by decide +kernel
theorem d_Wo_hasBit_14 : decode b_Wo_hasBit 14 = .ok (.lcmp, 1) := by decide +kernel
theorem d_Wo_hasBit_15 : decode b_Wo_hasBit 15 = .ok (.ifCond .eq 7, 3) := by decide +kernel
theorem d_Wo_hasBit_18 : decode b_Wo_hasBit 18 = .ok (.iconst 1, 1) := by decide +kernel
theorem d_Wo_hasBit_19 : decode b_Wo_hasBit 19 = .ok (.goto 4, 3) := by decide +kernel
theorem d_Wo_hasBit_22 : decode b_Wo_hasBit 22 = .ok (.iconst 0, 1) := by decide +kernel
theorem d_Wo_hasBit_23 : decode b_Wo_hasBit 23 = .ok (.ireturn, 1) := by decide +kernel
set_option maxHeartbeats 4000000 in
set_option maxRecDepth 100000 in
theorem c_Wo_hasBit (l : Launch) (H : Heap) (a A b : Nat) (hb8 : b < 256) : Met l y_Wo_hasBit w_Wo_hasBit ({ frames := 0, cells := 0, slots := 0, locals := 0 }) (kq_P [.ref a, .int (nI b)] H (fun U => kq_sL U H a 8 A)) (kq_Q (fun v H1 => v = some (.int (kq_z (decide (A / 2 ^ b % 2 = 1)))) ∧ H1 = H)) 0 0 (fun _ => False) := by
  refine Met.ofW (cc := b_Wo_hasBit) (maxL := 2) (ret := (some .boolean)) (by decide) rfl ?_
  intro p e s m args below meth c s₁ B0 hml hv
  obtain ⟨rfl, hH, hsa⟩ := hv
  have hx := B0.exec
  have hb := B0.bytes
  have hret := B0.returns
  have hts := atoms_spec (ws := w_Wo_hasBit) B0.pre
  have hown : s.vm.findClass R_Wo = some m.cls := findClass_of_methodNamed B0.named
  have hlocks := B0.notSynchronized
  rw [hH]
  have hl := lv_entry ([.ref a, .int (nI b)]) (n := 2) (Nat.le_of_ble_eq_true rfl)
  rw [lg_entry_eq]
  generalize (lg_sl ([.ref a, .int (nI b)]) ++ List.replicate (2 - (lg_sl ([.ref a, .int (nI b)])).length) Slot.unset).toArray = ls at hl ⊢
  have hl : lv_has ls 2 [(0, .ref a), (1, .int (nI b))] := hl
  refine lv_aload_n hx hb d_Wo_hasBit_0 rfl (lv_at hl 0 rfl) ?_
  refine lv_iload_n hx hb d_Wo_hasBit_1 rfl (lv_at hl 1 rfl) ?_
  refine lv_bipush (v := nI 32) hx hb d_Wo_hasBit_2 (by decide) ?_
  refine lv_idiv hx hb d_Wo_hasBit_4 (by decide) ?_
  refine kq_ri (show nI b / nI 32 = nI (b / 32) from pk_div (a := b) (d := 32) (by omega) (by decide) (by decide)) ?_
  refine kq_lald hx hb (hsa) ((by omega)) (by decide) (rfl) d_Wo_hasBit_5 ?_
  refine lv_iload_n hx hb d_Wo_hasBit_6 rfl (lv_at hl 1 rfl) ?_
  refine lv_bipush (v := nI 32) hx hb d_Wo_hasBit_7 (by decide) ?_
  refine lv_irem hx hb d_Wo_hasBit_9 (by decide) ?_
  refine kq_ri (show nI b - nI b / nI 32 * nI 32 = nI (b % 32) from pk_rem (a := b) (d := 32) (by omega) (by decide) (by decide)) ?_
  refine lv_lushr (v := lN (kw_d A (b / 32) / 2 ^ (b % 32))) hx hb d_Wo_hasBit_10 (wb_shr (by have := kw_d_lt A (b / 32); omega) (by omega)) ?_
  refine lv_lconst (v := lN 1) hx hb d_Wo_hasBit_11 (by decide) ?_
  refine lv_land hx hb d_Wo_hasBit_12 ?_
  refine kq_rl (show (lN (kw_d A (b / 32) / 2 ^ (b % 32))) &&& (lN 1) = lN (A / 2 ^ b % 2) from (by rw [show lN 1 = 1 from rfl, wb_a1 (Nat.lt_of_le_of_lt (Nat.div_le_self _ _) (by have := kw_d_lt A (b / 32); omega)), kw_bit])) ?_
  refine lv_lconst (v := lN 0) hx hb d_Wo_hasBit_13 (by decide) ?_
  refine W.lcmp hx hb d_Wo_hasBit_14 ?_
  refine lv_if_eq hx hb d_Wo_hasBit_15 rfl (fun hc => ?_) (fun hc => ?_)
  · have hn : ¬ A / 2 ^ b % 2 = 1 := by
      have := (kq_cmp_eq (by omega) (by decide)).mp hc
      omega
    refine lv_iconst (v := nI 0) hx hb d_Wo_hasBit_22 (by decide) ?_
    exact W.zret hx hb hret rfl (fun t ht _ => ⟨_, rfl, by rw [kq_z_f hn], ht⟩) (fun q h => by cases h) d_Wo_hasBit_23
  · have hp : A / 2 ^ b % 2 = 1 := by
      have : ¬ A / 2 ^ b % 2 = 0 := fun q => hc ((kq_cmp_eq (by omega) (by decide)).mpr q)
      omega
    refine lv_iconst (v := nI 1) hx hb d_Wo_hasBit_18 (by decide) ?_
    refine lv_goto hx hb d_Wo_hasBit_19 rfl ?_
    exact W.zret hx hb hret rfl (fun t ht _ => ⟨_, rfl, by rw [kq_z_t hp], ht⟩) (fun q h => by cases h) d_Wo_hasBit_23
end
section
/-! The classes and their fields; worlds of rows (own rows). -/
def F_Cu : u_T := fun k => match k with
  | 0 => ("KeyCurve$Curve", "field", "LKeyCurve$Prime;", true)
  | 1 => ("KeyCurve$Curve", "x", "[J", true)
  | 2 => ("KeyCurve$Curve", "y", "[J", true)
  | 3 => ("KeyCurve$Curve", "z", "[J", true)
  | 4 => ("KeyCurve$Curve", "run", "[J", true)
  | 5 => ("KeyCurve$Curve", "rise", "[J", true)
  | 6 => ("KeyCurve$Curve", "square", "[J", true)
  | 7 => ("KeyCurve$Curve", "cube", "[J", true)
  | 8 => ("KeyCurve$Curve", "shared", "[J", true)
  | 9 => ("KeyCurve$Curve", "found", "[J", true)
  | 10 => ("KeyCurve$Curve", "wanted", "[J", true)
  | _ => ("KeyCurve$Curve", "check", "[J", true)
def t_Cu : Nat → FieldType := fun k => match k with
  | 0 => .object "KeyCurve$Prime"
  | 1 => .array .long
  | 2 => .array .long
  | 3 => .array .long
  | 4 => .array .long
  | 5 => .array .long
  | 6 => .array .long
  | 7 => .array .long
  | 8 => .array .long
  | 9 => .array .long
  | 10 => .array .long
  | _ => .array .long
theorem kt_F_Cu : ∀ w ∈ u_ws R_Cu F_Cu 12, w ∈ kt_all := by
  intro w hw
  obtain ⟨k, hk, rfl⟩ := List.mem_map.mp hw
  have hk := List.mem_range.mp hk
  rcases (show k = 0 ∨ k = 1 ∨ k = 2 ∨ k = 3 ∨ k = 4 ∨ k = 5 ∨ k = 6 ∨ k = 7 ∨ k = 8 ∨ k = 9 ∨ k = 10 ∨ k = 11 by omega) with rfl | rfl | rfl | rfl | rfl | rfl | rfl | rfl | rfl | rfl | rfl | rfl
  · exact kt_w111
  · exact kt_w113
  · exact kt_w115
  · exact kt_w117
  · exact kt_w119
  · exact kt_w121
  · exact kt_w123
  · exact kt_w125
  · exact kt_w127
  · exact kt_w129
  · exact kt_w131
  · exact kt_w133
theorem n_Cu : ∀ a, a < 12 → ∀ b, b < 12 → a ≠ b → (F_Cu a).2.1 ≠ (F_Cu b).2.1 := by decide +kernel
theorem t_Cu_ok : ∀ k, k < 12 → parseFieldDescriptor (F_Cu k).2.2.1 = some (t_Cu k) := by decide +kernel
def F_Pr : u_T := fun k => match k with
  | 0 => ("KeyCurve$Prime", "prime", "[J", true)
  | 1 => ("KeyCurve$Prime", "gap", "[J", true)
  | 2 => ("KeyCurve$Prime", "gapWords", "I", true)
  | 3 => ("KeyCurve$Prime", "inversePower", "[J", true)
  | 4 => ("KeyCurve$Prime", "wide", "[J", true)
  | 5 => ("KeyCurve$Prime", "high", "[J", true)
  | 6 => ("KeyCurve$Prime", "seed", "[J", true)
  | 7 => ("KeyCurve$Prime", "grown", "[J", true)
  | _ => ("KeyCurve$Prime", "trimmed", "[J", true)
def t_Pr : Nat → FieldType := fun k => match k with
  | 0 => .array .long
  | 1 => .array .long
  | 2 => .int
  | 3 => .array .long
  | 4 => .array .long
  | 5 => .array .long
  | 6 => .array .long
  | 7 => .array .long
  | _ => .array .long
theorem kt_F_Pr : ∀ w ∈ u_ws R_Pr F_Pr 9, w ∈ kt_all := by
  intro w hw
  obtain ⟨k, hk, rfl⟩ := List.mem_map.mp hw
  have hk := List.mem_range.mp hk
  rcases (show k = 0 ∨ k = 1 ∨ k = 2 ∨ k = 3 ∨ k = 4 ∨ k = 5 ∨ k = 6 ∨ k = 7 ∨ k = 8 by omega) with rfl | rfl | rfl | rfl | rfl | rfl | rfl | rfl | rfl
  · exact kt_w70
  · exact kt_w72
  · exact kt_w74
  · exact kt_w76
  · exact kt_w78
  · exact kt_w80
  · exact kt_w82
  · exact kt_w84
  · exact kt_w86
theorem n_Pr : ∀ a, a < 9 → ∀ b, b < 9 → a ≠ b → (F_Pr a).2.1 ≠ (F_Pr b).2.1 := by decide +kernel
theorem t_Pr_ok : ∀ k, k < 9 → parseFieldDescriptor (F_Pr k).2.2.1 = some (t_Pr k) := by decide +kernel
def F_Sp : u_T := fun k => match k with
  | 0 => ("KeyCurve$Spot", "x", "[J", true)
  | 1 => ("KeyCurve$Spot", "y", "[J", true)
  | _ => ("KeyCurve$Spot", "isNone", "Z", false)
def t_Sp : Nat → FieldType := fun k => match k with
  | 0 => .array .long
  | 1 => .array .long
  | _ => .boolean
theorem kt_F_Sp : ∀ w ∈ u_ws R_Sp F_Sp 3, w ∈ kt_all := by
  intro w hw
  obtain ⟨k, hk, rfl⟩ := List.mem_map.mp hw
  have hk := List.mem_range.mp hk
  rcases (show k = 0 ∨ k = 1 ∨ k = 2 by omega) with rfl | rfl | rfl
  · exact kt_w35
  · exact kt_w37
  · exact kt_w39
theorem n_Sp : ∀ a, a < 3 → ∀ b, b < 3 → a ≠ b → (F_Sp a).2.1 ≠ (F_Sp b).2.1 := by decide +kernel
theorem t_Sp_ok : ∀ k, k < 3 → parseFieldDescriptor (F_Sp k).2.2.1 = some (t_Sp k) := by decide +kernel
def F_Ke : u_T := fun k => match k with
  | 0 => ("KeyCurve", "registers", "[[J", true)
  | 1 => ("KeyCurve", "points", "[LKeyCurve$Spot;", true)
  | 2 => ("KeyCurve", "field", "LKeyCurve$Prime;", true)
  | 3 => ("KeyCurve", "order", "LKeyCurve$Prime;", true)
  | _ => ("KeyCurve", "curve", "LKeyCurve$Curve;", true)
def t_Ke : Nat → FieldType := fun k => match k with
  | 0 => .array (.array .long)
  | 1 => .array (.object "KeyCurve$Spot")
  | 2 => .object "KeyCurve$Prime"
  | 3 => .object "KeyCurve$Prime"
  | _ => .object "KeyCurve$Curve"
theorem kt_F_Ke : ∀ w ∈ u_ws R_Ke F_Ke 5, w ∈ kt_all := by
  intro w hw
  obtain ⟨k, hk, rfl⟩ := List.mem_map.mp hw
  have hk := List.mem_range.mp hk
  rcases (show k = 0 ∨ k = 1 ∨ k = 2 ∨ k = 3 ∨ k = 4 by omega) with rfl | rfl | rfl | rfl | rfl
  · exact kt_w141
  · exact kt_w143
  · exact kt_w145
  · exact kt_w147
  · exact kt_w149
theorem n_Ke : ∀ a, a < 5 → ∀ b, b < 5 → a ≠ b → (F_Ke a).2.1 ≠ (F_Ke b).2.1 := by decide +kernel
theorem t_Ke_ok : ∀ k, k < 5 → parseFieldDescriptor (F_Ke k).2.2.1 = some (t_Ke k) := by decide +kernel
def F_Mo : u_T := fun k => match k with
  | 0 => ("KeyCurveModel", "register", "[[I", true)
  | 1 => ("KeyCurveModel", "px", "[[I", true)
  | 2 => ("KeyCurveModel", "py", "[[I", true)
  | 3 => ("KeyCurveModel", "isNone", "[Z", true)
  | 4 => ("KeyCurveModel", "one", "[I", true)
  | 5 => ("KeyCurveModel", "rest", "[I", true)
  | 6 => ("KeyCurveModel", "uu", "[I", true)
  | 7 => ("KeyCurveModel", "vv", "[I", true)
  | 8 => ("KeyCurveModel", "product", "[I", true)
  | 9 => ("KeyCurveModel", "slope", "[I", true)
  | 10 => ("KeyCurveModel", "t1", "[I", true)
  | 11 => ("KeyCurveModel", "t2", "[I", true)
  | 12 => ("KeyCurveModel", "t3", "[I", true)
  | 13 => ("KeyCurveModel", "rx", "[I", true)
  | 14 => ("KeyCurveModel", "ry", "[I", true)
  | 15 => ("KeyCurveModel", "na", "[I", true)
  | 16 => ("KeyCurveModel", "nb", "[I", true)
  | 17 => ("KeyCurveModel", "isFar", "Z", false)
  | 18 => ("KeyCurveModel", "ia", "[I", true)
  | _ => ("KeyCurveModel", "ib", "[I", true)
def t_Mo : Nat → FieldType := fun k => match k with
  | 0 => .array (.array .int)
  | 1 => .array (.array .int)
  | 2 => .array (.array .int)
  | 3 => .array .boolean
  | 4 => .array .int
  | 5 => .array .int
  | 6 => .array .int
  | 7 => .array .int
  | 8 => .array .int
  | 9 => .array .int
  | 10 => .array .int
  | 11 => .array .int
  | 12 => .array .int
  | 13 => .array .int
  | 14 => .array .int
  | 15 => .array .int
  | 16 => .array .int
  | 17 => .boolean
  | 18 => .array .int
  | _ => .array .int
theorem kt_F_Mo : ∀ w ∈ u_ws R_Mo F_Mo 20, w ∈ kt_all := by
  intro w hw
  obtain ⟨k, hk, rfl⟩ := List.mem_map.mp hw
  have hk := List.mem_range.mp hk
  rcases (show k = 0 ∨ k = 1 ∨ k = 2 ∨ k = 3 ∨ k = 4 ∨ k = 5 ∨ k = 6 ∨ k = 7 ∨ k = 8 ∨ k = 9 ∨ k = 10 ∨ k = 11 ∨ k = 12 ∨ k = 13 ∨ k = 14 ∨ k = 15 ∨ k = 16 ∨ k = 17 ∨ k = 18 ∨ k = 19 by omega) with rfl | rfl | rfl | rfl | rfl | rfl | rfl | rfl | rfl | rfl | rfl | rfl | rfl | rfl | rfl | rfl | rfl | rfl | rfl | rfl
  · exact kt_w396
  · exact kt_w398
  · exact kt_w400
  · exact kt_w402
  · exact kt_w404
  · exact kt_w406
  · exact kt_w408
  · exact kt_w410
  · exact kt_w412
  · exact kt_w414
  · exact kt_w416
  · exact kt_w418
  · exact kt_w420
  · exact kt_w422
  · exact kt_w424
  · exact kt_w426
  · exact kt_w428
  · exact kt_w430
  · exact kt_w432
  · exact kt_w434
theorem n_Mo : ∀ a, a < 20 → ∀ b, b < 20 → a ≠ b → (F_Mo a).2.1 ≠ (F_Mo b).2.1 := by decide +kernel
theorem t_Mo_ok : ∀ k, k < 20 → parseFieldDescriptor (F_Mo k).2.2.1 = some (t_Mo k) := by decide +kernel
abbrev kr_cl : List vw_C := [(R_Cu, F_Cu, 12), (R_Pr, F_Pr, 9), (R_Sp, F_Sp, 3), (R_Ke, F_Ke, 5), (R_Mo, F_Mo, 20)]
/-- a world of rows of longs: which rows are written, which are only read, lengths, what the read ones hold, the array class, tables, the heap around -/
abbrev kr_E : Type := (Nat → Prop) × (Nat → Prop) × (Nat → Nat) × (Nat → Nat) × ClassId × va_G × (List (ClassId × FieldType)) × Heap
def kr_L (E : kr_E) : Nat → Prop := E.1
def kr_S (E : kr_E) : Nat → Prop := E.2.1
def kr_n (E : kr_E) : Nat → Nat := E.2.2.1
def kr_v (E : kr_E) : Nat → Nat := E.2.2.2.1
def kr_c (E : kr_E) : ClassId := E.2.2.2.2.1
def kr_D (E : kr_E) : va_G := E.2.2.2.2.2.1
def kr_t (E : kr_E) : List (ClassId × FieldType) := E.2.2.2.2.2.2.1
def kr_H (E : kr_E) : Heap := E.2.2.2.2.2.2.2
def kr_ok (E : kr_E) : Prop := (∀ a, kr_S E a → ¬ kr_L E a) ∧ (∀ a, kr_S E a → kr_v E a < kw_M 8) ∧ ∃ k : Nat, (kr_t E)[k]? = some (kr_c E, .long)
def kr_W (E : kr_E) (v : Nat → Nat) (H : Heap) : Prop := H.size = (kr_H E).size ∧ (∀ a, kr_L E a → H[a]? = some (kq_L (kr_c E) (kr_n E a) (v a))) ∧ (∀ q, ¬ kr_L E q → H[q]? = (kr_H E)[q]?) ∧ (∀ a, kr_L E a → v a < kw_M (kr_n E a)) ∧ ∀ a, kr_S E a → v a = kr_v E a
def kr_B (E : kr_E) (U : State) : Prop := va_K (kr_D E) kr_cl (kr_t E) U ∧ ∀ a, kr_S E a → kq_sL U (kr_H E) a 8 (kr_v E a)
def kr_out (E : kr_E) (a : Nat) : Prop := kr_L E a ∧ kr_n E a = 8
def kr_in (E : kr_E) (a : Nat) : Prop := kr_out E a ∨ kr_S E a
theorem kr_st (E : kr_E) : kq_st (kr_B E) := fun _ _ hv q => ⟨va_K.moved hv q.1, fun a ha => (q.2 a ha).moved hv⟩
theorem kr_T {E : kr_E} {U : State} (h : kr_ok E) (hB : kr_B E U) : ArrOfT U (kr_c E) .long := by
  obtain ⟨k, hk⟩ := h.2.2
  exact (hB.1.2 k _ hk).1
theorem kr_src {E : kr_E} {U : State} {v : Nat → Nat} {H : Heap} {a : Nat} (h : kr_ok E) (hW : kr_W E v H) (hB : kr_B E U) (ha : kr_in E a) : kq_sL U H a 8 (v a) := by
  rcases ha with ⟨h1, h2⟩ | h1
  · have e := hW.2.1 a h1
    rw [h2] at e
    exact kq_r.ofV (kr_T h hB) e
  · rw [hW.2.2.2.2 a h1]
    exact (hB.2 a h1).other (hW.2.2.1 a (h.1 a h1))
theorem kr_lt {E : kr_E} {v : Nat → Nat} {H : Heap} {a : Nat} (h : kr_ok E) (hW : kr_W E v H) (ha : kr_in E a) : v a < kw_M 8 := by
  rcases ha with ⟨h1, h2⟩ | h1
  · have e := hW.2.2.2.1 a h1
    rw [h2] at e
    exact e
  · rw [hW.2.2.2.2 a h1]
    exact h.2.1 a h1
theorem kr_row {E : kr_E} {v : Nat → Nat} {H : Heap} {a : Nat} (hW : kr_W E v H) (ha : kr_out E a) : H[a]? = some (kq_L (kr_c E) 8 (v a)) := by
  have e := hW.2.1 a ha.1
  rw [ha.2] at e
  exact e
theorem kr_putn {E : kr_E} {v : Nat → Nat} {H : Heap} {r X k : Nat} (h : kr_ok E) (hW : kr_W E v H) (hr : kr_L E r) (hk : kr_n E r = k) (hX : X < kw_M k) : kr_W E (va_up v r X) (kq_set H r (kq_L (kr_c E) k X)) := by
  have hc := hW.2.1 r hr
  refine ⟨by rw [kq_set_size]; exact hW.1, fun a ha => ?_, fun q hq => ?_, fun a ha => ?_, fun a ha => ?_⟩
  · by_cases e : a = r
    · subst e
      rw [kq_set_at hc, hk]
      simp [va_up]
    · rw [kq_set_ne e, hW.2.1 a ha]
      simp [va_up, e]
  · rw [kq_set_ne (fun e => hq (by rw [e]; exact hr))]
    exact hW.2.2.1 q hq
  · by_cases e : a = r
    · subst e
      rw [hk]
      simp only [va_up, if_pos rfl]
      exact hX
    · simp only [va_up, if_neg e]
      exact hW.2.2.2.1 a ha
  · have e : a ≠ r := fun e => h.1 a ha (by rw [e]; exact hr)
    simp only [va_up, if_neg e]
    exact hW.2.2.2.2 a ha
theorem kr_put {E : kr_E} {v : Nat → Nat} {H : Heap} {r X : Nat} (h : kr_ok E) (hW : kr_W E v H) (hr : kr_out E r) (hX : X < kw_M 8) : kr_W E (va_up v r X) (kq_set H r (kq_L (kr_c E) 8 X)) := kr_putn h hW hr.1 hr.2 hX
theorem kr_same {E : kr_E} {v w : Nat → Nat} {H : Heap} (h : ∀ a, v a = w a) (hW : kr_W E v H) : kr_W E w H := by
  have e : v = w := funext h
  rw [← e]
  exact hW
theorem kr_obj {E : kr_E} {v : Nat → Nat} {H : Heap} {h : Nat} {x : va_E} (hW : kr_W E v H) (hP : va_P (kr_D E) kr_cl [(h, x)] (kr_H E)) (hn : ¬ kr_L E h) : va_P (kr_D E) kr_cl [(h, x)] H := hP.kept (fun k q hk => by
  have h0 : k < 1 := (List.getElem?_eq_some_iff.mp hk).1
  rw [show k = 0 by omega] at hk
  cases hk
  exact hW.2.2.1 h hn)

/-- a world of rows of ints: which rows are written, which are only read, lengths, what the read ones hold, the array class, tables, the heap around -/
abbrev ks_E : Type := (Nat → Prop) × (Nat → Prop) × (Nat → Nat) × (Nat → Nat) × ClassId × va_G × (List (ClassId × FieldType)) × Heap
def ks_L (E : ks_E) : Nat → Prop := E.1
def ks_S (E : ks_E) : Nat → Prop := E.2.1
def ks_n (E : ks_E) : Nat → Nat := E.2.2.1
def ks_v (E : ks_E) : Nat → Nat := E.2.2.2.1
def ks_c (E : ks_E) : ClassId := E.2.2.2.2.1
def ks_D (E : ks_E) : va_G := E.2.2.2.2.2.1
def ks_t (E : ks_E) : List (ClassId × FieldType) := E.2.2.2.2.2.2.1
def ks_H (E : ks_E) : Heap := E.2.2.2.2.2.2.2
def ks_ok (E : ks_E) : Prop := (∀ a, ks_S E a → ¬ ks_L E a) ∧ (∀ a, ks_S E a → ks_v E a < kw_M 8) ∧ ∃ k : Nat, (ks_t E)[k]? = some (ks_c E, .int)
def ks_W (E : ks_E) (v : Nat → Nat) (H : Heap) : Prop := H.size = (ks_H E).size ∧ (∀ a, ks_L E a → H[a]? = some (kq_I (ks_c E) (ks_n E a) (v a))) ∧ (∀ q, ¬ ks_L E q → H[q]? = (ks_H E)[q]?) ∧ (∀ a, ks_L E a → v a < kw_M (ks_n E a)) ∧ ∀ a, ks_S E a → v a = ks_v E a
def ks_B (E : ks_E) (U : State) : Prop := va_K (ks_D E) kr_cl (ks_t E) U ∧ ∀ a, ks_S E a → kq_sI U (ks_H E) a 8 (ks_v E a)
def ks_out (E : ks_E) (a : Nat) : Prop := ks_L E a ∧ ks_n E a = 8
def ks_in (E : ks_E) (a : Nat) : Prop := ks_out E a ∨ ks_S E a
theorem ks_st (E : ks_E) : kq_st (ks_B E) := fun _ _ hv q => ⟨va_K.moved hv q.1, fun a ha => (q.2 a ha).moved hv⟩
theorem ks_T {E : ks_E} {U : State} (h : ks_ok E) (hB : ks_B E U) : ArrOfT U (ks_c E) .int := by
  obtain ⟨k, hk⟩ := h.2.2
  exact (hB.1.2 k _ hk).1
theorem ks_src {E : ks_E} {U : State} {v : Nat → Nat} {H : Heap} {a : Nat} (h : ks_ok E) (hW : ks_W E v H) (hB : ks_B E U) (ha : ks_in E a) : kq_sI U H a 8 (v a) := by
  rcases ha with ⟨h1, h2⟩ | h1
  · have e := hW.2.1 a h1
    rw [h2] at e
    exact kq_r.ofV (ks_T h hB) e
  · rw [hW.2.2.2.2 a h1]
    exact (hB.2 a h1).other (hW.2.2.1 a (h.1 a h1))
theorem ks_lt {E : ks_E} {v : Nat → Nat} {H : Heap} {a : Nat} (h : ks_ok E) (hW : ks_W E v H) (ha : ks_in E a) : v a < kw_M 8 := by
  rcases ha with ⟨h1, h2⟩ | h1
  · have e := hW.2.2.2.1 a h1
    rw [h2] at e
    exact e
  · rw [hW.2.2.2.2 a h1]
    exact h.2.1 a h1
theorem ks_row {E : ks_E} {v : Nat → Nat} {H : Heap} {a : Nat} (hW : ks_W E v H) (ha : ks_out E a) : H[a]? = some (kq_I (ks_c E) 8 (v a)) := by
  have e := hW.2.1 a ha.1
  rw [ha.2] at e
  exact e
theorem ks_putn {E : ks_E} {v : Nat → Nat} {H : Heap} {r X k : Nat} (h : ks_ok E) (hW : ks_W E v H) (hr : ks_L E r) (hk : ks_n E r = k) (hX : X < kw_M k) : ks_W E (va_up v r X) (kq_set H r (kq_I (ks_c E) k X)) := by
  have hc := hW.2.1 r hr
  refine ⟨by rw [kq_set_size]; exact hW.1, fun a ha => ?_, fun q hq => ?_, fun a ha => ?_, fun a ha => ?_⟩
  · by_cases e : a = r
    · subst e
      rw [kq_set_at hc, hk]
      simp [va_up]
    · rw [kq_set_ne e, hW.2.1 a ha]
      simp [va_up, e]
  · rw [kq_set_ne (fun e => hq (by rw [e]; exact hr))]
    exact hW.2.2.1 q hq
  · by_cases e : a = r
    · subst e
      rw [hk]
      simp only [va_up, if_pos rfl]
      exact hX
    · simp only [va_up, if_neg e]
      exact hW.2.2.2.1 a ha
  · have e : a ≠ r := fun e => h.1 a ha (by rw [e]; exact hr)
    simp only [va_up, if_neg e]
    exact hW.2.2.2.2 a ha
theorem ks_put {E : ks_E} {v : Nat → Nat} {H : Heap} {r X : Nat} (h : ks_ok E) (hW : ks_W E v H) (hr : ks_out E r) (hX : X < kw_M 8) : ks_W E (va_up v r X) (kq_set H r (kq_I (ks_c E) 8 X)) := ks_putn h hW hr.1 hr.2 hX
theorem ks_same {E : ks_E} {v w : Nat → Nat} {H : Heap} (h : ∀ a, v a = w a) (hW : ks_W E v H) : ks_W E w H := by
  have e : v = w := funext h
  rw [← e]
  exact hW
theorem ks_obj {E : ks_E} {v : Nat → Nat} {H : Heap} {h : Nat} {x : va_E} (hW : ks_W E v H) (hP : va_P (ks_D E) kr_cl [(h, x)] (ks_H E)) (hn : ¬ ks_L E h) : va_P (ks_D E) kr_cl [(h, x)] H := hP.kept (fun k q hk => by
  have h0 : k < 1 := (List.getElem?_eq_some_iff.mp hk).1
  rw [show k = 0 by omega] at hk
  cases hk
  exact hW.2.2.1 h hn)

theorem kq_up_at {v : Nat → Nat} {r X : Nat} : va_up v r X r = X := by simp [va_up]
theorem kq_up_ne {v : Nat → Nat} {r X q : Nat} (h : q ≠ r) : va_up v r X q = v q := by simp [va_up, h]
theorem kq_recv {D : va_G} {tys : List (ClassId × FieldType)} {s : State} {H : Heap} {a ci : Nat} {fs : List Value} {C : String} {T : u_T} {N : Nat} (hK : va_K D kr_cl tys s) (hP : va_P D kr_cl [(a, .inr (ci, fs))] H) (hc : kr_cl[ci]? = some (C, T, N)) : ∃ cell : Cell, H[a]? = some cell ∧ cell.vm.isStatics = false ∧ s.vm.findClass C = some cell.cls := va_recv (q0 := 0) hK hP hc rfl
section KR
variable {p : Program} {l : Launch} {e : Env} {R : Room} {s : State} {m : MethodId} {args : Array Value} {below : List Frame} {meth : Method} {c : Code} {H : Heap} {locs : List Loc} {cells slots : Nat} {Q : State → Prop}
variable {cc : ByteArray} {pc : Nat} {ls : Array Slot} {rest : List Value}
theorem kq_get {y : Cond} {own C : String} {T : u_T} {N ci index : Nat} {D : va_G} {tys : List (ClassId × FieldType)} {a : Nat} {fs : List Value} {v : Value} (hexec : p.tables.exec = Jvm.exec) (hb : c.code = cc) (hts : ∀ w ∈ y :: kt_all, w.before args s = true) (hin : ∀ w ∈ u_ws C T N, w ∈ kt_all) (hown : s.vm.findClass own = some m.cls) (hK : va_K D kr_cl tys s) (hP : va_P D kr_cl [(a, .inr (ci, fs))] H) (hc : kr_cl[ci]? = some (C, T, N)) (k : Nat) (hk : k < N) (hlink : Cond.fieldLink own index (T k).1 (T k).2.1 (T k).2.2.1 ∈ kt_all) (hv : fs[k]? = some v) (hdg : decode cc pc = .ok (.getfield index, 3))
    (kk : W p l e R s m args below meth c H locs cells slots Q (F0 m (pc + 3) ls (v :: rest))) : W p l e R s m args below meth c H locs cells slots Q (F0 m pc ls (.ref a :: rest)) :=
  va_get hexec hb hts (fun w hw => List.mem_cons_of_mem _ (hin w hw)) hown hK hP 0 rfl hc k hk (hts _ (List.mem_cons_of_mem _ hlink)) (fun _ h => h) hv hdg kk
end KR
end
section
/-! KeyCurve$Prime: its world; trim, sum, difference (own rows). -/
/-- a Prime's object at h: its prime m with the gap G of gw words, its rows behind it -/
def kr_P (E : kr_E) (h pa ga gw mm G : Nat) : Prop := va_P (kr_D E) kr_cl [(h, .inr (1, [.ref pa, .ref ga, .int (nI gw), .ref (h + 6), .ref (h + 1), .ref (h + 2), .ref (h + 3), .ref (h + 4), .ref (h + 5)]))] (kr_H E) ∧ ¬ kr_L E h ∧ (kr_S E pa ∧ kr_v E pa = mm) ∧ (kr_S E ga ∧ kr_v E ga = G) ∧ kp_ok mm G ∧ pm_prime mm ∧ (G < kw_M gw ∧ gw ≤ 8) ∧ (kr_S E (h + 6) ∧ kr_v E (h + 6) = mm - 2) ∧ (kr_L E (h + 1) ∧ kr_n E (h + 1) = 16) ∧ kr_out E (h + 2) ∧ kr_out E (h + 3) ∧ kr_out E (h + 4) ∧ kr_out E (h + 5)
theorem kr_P.prime {E : kr_E} {h pa ga gw mm G : Nat} {v : Nat → Nat} {H : Heap} (hP : kr_P E h pa ga gw mm G) (hW : kr_W E v H) : v pa = mm := by
  rw [hW.2.2.2.2 pa hP.2.2.1.1]
  exact hP.2.2.1.2
theorem kr_P.gap {E : kr_E} {h pa ga gw mm G : Nat} {v : Nat → Nat} {H : Heap} (hP : kr_P E h pa ga gw mm G) (hW : kr_W E v H) : v ga = G := by
  rw [hW.2.2.2.2 ga hP.2.2.2.1.1]
  exact hP.2.2.2.1.2
theorem kq_cz {x y : Nat} (hx : x < kw_M 8) (hy : y < kw_M 8) : lg_cmp (lN ((x + y) / kw_M 8)) (lN 0) = 0 ↔ (x + y) / kw_M 8 = 0 := by
  have h : (x + y) / kw_M 8 < 2 := Nat.div_lt_of_lt_mul (by omega)
  exact kq_cmp_eq (by omega) (by decide)
theorem d_Pr_trim_0 : decode b_Pr_trim 0 = .ok (.aload_n 1, 1) := by decide +kernel
theorem d_Pr_trim_1 : decode b_Pr_trim 1 = .ok (.aload_n 0, 1) := by decide +kernel
theorem d_Pr_trim_2 : decode b_Pr_trim 2 = .ok (.getfield 27, 3) := by decide +kernel
theorem d_Pr_trim_5 : decode b_Pr_trim 5 = .ok (.invokestatic 93, 3) := by decide +kernel
theorem d_Pr_trim_8 : decode b_Pr_trim 8 = .ok (.ifCond .ne 13, 3) := by decide +kernel
theorem d_Pr_trim_11 : decode b_Pr_trim 11 = .ok (.aload_n 1, 1) := by decide +kernel
theorem d_Pr_trim_12 : decode b_Pr_trim 12 = .ok (.aload_n 1, 1) := by decide +kernel
theorem d_Pr_trim_13 : decode b_Pr_trim 13 = .ok (.aload_n 0, 1) := by decide +kernel
theorem d_Pr_trim_14 : decode b_Pr_trim 14 = .ok (.getfield 27, 3) := by decide +kernel
theorem d_Pr_trim_17 : decode b_Pr_trim 17 = .ok (.invokestatic 57, 3) := by decide +kernel
theorem d_Pr_trim_20 : decode b_Pr_trim 20 = .ok (.pop2, 1) := by decide +kernel
theorem d_Pr_trim_21 : decode b_Pr_trim 21 = .ok (.return_, 1) := by decide +kernel
set_option maxHeartbeats 4000000 in
set_option maxRecDepth 100000 in
theorem c_Pr_trim (l : Launch) (E : kr_E) (h pa ga gw mm G : Nat) (v : Nat → Nat) (H : Heap) (hE : kr_ok E) (hP : kr_P E h pa ga gw mm G) (hW : kr_W E v H) (r : Nat) (hr : kr_out E r) : Met l y_Pr_trim w_Pr_trim ({ frames := 1, cells := 0, slots := 0, locals := 27 }) (kq_P [.ref h, .ref r] H (kr_B E)) (kq_Q (fun o H1 => o = none ∧ kr_W E (va_up v r (v r % mm)) H1)) 0 0 (fun q => q = r) := by
  refine Met.ofW (cc := b_Pr_trim) (maxL := 2) (ret := none) (by decide) rfl ?_
  intro p e s m args below meth c s₁ B0 hml hv
  obtain ⟨rfl, hH, hB⟩ := hv
  have hx := B0.exec
  have hb := B0.bytes
  have hret := B0.returns
  have hts := atoms_spec (ws := w_Pr_trim) B0.pre
  have hown : s.vm.findClass R_Pr = some m.cls := findClass_of_methodNamed B0.named
  have hlocks := B0.notSynchronized
  rw [hH]
  have hl := lv_entry ([.ref h, .ref r]) (n := 2) (Nat.le_of_ble_eq_true rfl)
  rw [lg_entry_eq]
  generalize (lg_sl ([.ref h, .ref r]) ++ List.replicate (2 - (lg_sl ([.ref h, .ref r])).length) Slot.unset).toArray = ls at hl ⊢
  have hl : lv_has ls 2 [(0, .ref h), (1, .ref r)] := hl
  have hT := kr_T hE hB
  have hK := hB.1
  have hO := kr_obj hW hP.1 hP.2.1
  have hvp := hP.prime hW
  have hsr := kr_src hE hW hB (Or.inl hr)
  have hsp := kr_src hE hW hB (Or.inr hP.2.2.1.1)
  have hlr := kr_lt hE hW (Or.inl hr)
  have hlp := kr_lt hE hW (Or.inr hP.2.2.1.1)
  rw [hvp] at hsp hlp
  have htr := kp_trim hP.2.2.2.2.1 hlr
  refine lv_aload_n hx hb d_Pr_trim_0 rfl (lv_at hl 1 rfl) ?_
  refine lv_aload_n hx hb d_Pr_trim_1 rfl (lv_at hl 0 rfl) ?_
  refine kq_get hx hb hts kt_F_Pr hown hK hO rfl 0 (by decide) kt_w61 rfl d_Pr_trim_2 ?_
  refine kq_call (va_runS (As := [.ref r, .ref pa]) (rest := []) ⟨hx, hb, hml, hown, hts⟩ (c_Wo_isBelow l H r pa (v r) mm hlr hlp) (va_cwS 2 hts (kt_inS kt_w187 kt_w185 kt_w186 kt_w6) rfl rfl rfl (by decide +kernel) ⟨Nat.le_of_ble_eq_true rfl, Nat.le_of_ble_eq_true rfl⟩) (kq_preS (kq_st_r.both kq_st_r) (⟨hsr, hsp⟩)) rfl rfl hl.1 rfl (lv_room (Nat.le_of_ble_eq_true rfl)) d_Pr_trim_5 ⟨Nat.zero_le _, Nat.zero_le _⟩) (fun v9 H9 L9 hq9 hL9 => ?_)
  obtain ⟨rfl, e9⟩ := hq9
  rw [e9]
  clear e9
  refine W.eq (g2 := F0 m 8 ls [.int (kq_z (decide (v r < mm)))]) rfl ?_
  refine lv_if_ne hx hb d_Pr_trim_8 rfl (fun hc => ?_) (fun hc => ?_)
  · have hlt : v r < mm := kq_z_ne.mp hc
    rw [if_pos hlt] at htr
    refine W.vret hx hb hret (fun t ht _ => ⟨_, rfl, rfl, ?_⟩) (fun q h => (hL9 q h).elim) d_Pr_trim_21
    rw [ht]
    refine kr_same (fun a => ?_) hW
    by_cases e : a = r
    · subst e
      rw [kq_up_at, ← htr]
    · rw [kq_up_ne e]
  · have hge : ¬ v r < mm := kq_z_eq.mp hc
    rw [if_neg hge] at htr
    refine lv_aload_n hx hb d_Pr_trim_11 rfl (lv_at hl 1 rfl) ?_
    refine lv_aload_n hx hb d_Pr_trim_12 rfl (lv_at hl 1 rfl) ?_
    refine lv_aload_n hx hb d_Pr_trim_13 rfl (lv_at hl 0 rfl) ?_
    refine kq_get hx hb hts kt_F_Pr hown hK hO rfl 0 (by decide) kt_w61 rfl d_Pr_trim_14 ?_
    refine kq_call (va_runS (As := [.ref r, .ref r, .ref pa]) (rest := []) ⟨hx, hb, hml, hown, hts⟩ (c_Wo_differenceInto l (kr_c E) H r r pa (v r) (v r) mm hlr hlr hlp (kr_row hW hr)) (va_cwS 3 hts (kt_inS kt_w190 kt_w188 kt_w189 kt_w6) rfl rfl rfl (by decide +kernel) ⟨Nat.le_of_ble_eq_true rfl, Nat.le_of_ble_eq_true rfl⟩) (kq_preS (kq_st_A.both (kq_st_r.both kq_st_r)) (⟨hT, hsr, hsp⟩)) rfl rfl hl.1 rfl (lv_room (Nat.le_of_ble_eq_true rfl)) d_Pr_trim_17 ⟨Nat.zero_le _, Nat.zero_le _⟩) (fun v8 H8 L8 hq8 hL8 => ?_)
    obtain ⟨rfl, rfl⟩ := hq8
    refine W.eq (g2 := F0 m 20 ls [.long (lN (if v r < mm then 1 else 0))]) rfl ?_
    refine lv_pop2_2 hx hb d_Pr_trim_20 rfl ?_
    refine W.vret hx hb hret (fun t ht _ => ⟨_, rfl, rfl, ?_⟩) (t_lL (free := fun q => q = r) (fun q h => (hL9 q h).elim) hL8) d_Pr_trim_21
    rw [ht, htr]
    exact kr_put hE hW hr (Nat.lt_trans (Nat.mod_lt _ (by have := hP.2.2.2.2.2.1.1; omega)) hlp)
section
variable {p : Program} {l : Launch} {e : Env} {R : Room} {s : State} {m : MethodId} {args : Array Value} {below : List Frame} {meth : Method} {c : Code} {cells slots : Nat} {Q : State → Prop}
set_option maxHeartbeats 4000000 in
set_option maxRecDepth 100000 in
theorem kr_trimEnd {y : Cond} {cc : ByteArray} {pc nL k0 k1 : Nat} {ls : Array Slot} {locs : List Loc} {E : kr_E} {h pa ga gw mm G r : Nat} {v : Nat → Nat} {H : Heap} (hx : p.tables.exec = Jvm.exec) (hb : c.code = cc) (hts : ∀ w ∈ y :: kt_all, w.before args s = true) (hown : s.vm.findClass R_Pr = some m.cls) (hml : c.maxLocals = nL) (hE : kr_ok E) (hP : kr_P E h pa ga gw mm G) (hW : kr_W E v H) (hB : kr_B E s) (hr : kr_out E r) (hRf : 2 ≤ R.frames) (hRl : 48 ≤ R.locals) {lv : List (Nat × Value)} (hl : lv_has ls nL lv) (h0 : lv[k0]? = some (0, .ref h)) (h1 : lv[k1]? = some (1, .ref r))
    (d0 : decode cc pc = .ok (.aload_n 0, 1)) (d1 : decode cc (pc + 1) = .ok (.aload_n 1, 1)) (d2 : decode cc (pc + 2) = .ok (.invokevirtual 53, 3))
    (kk : ∀ (H1 : Heap) (L : List Loc), kr_W E (va_up v r (v r % mm)) H1 → (∀ q ∈ L, q.base = r) → W p l e R s m args below meth c H1 (locs ++ L) 0 0 Q (F0 m (pc + 5) ls [])) : W p l e R s m args below meth c H locs 0 0 Q (F0 m pc ls []) := by
  refine lv_aload_n hx hb d0 rfl (lv_at hl k0 h0) ?_
  refine lv_aload_n hx hb d1 rfl (lv_at hl k1 h1) ?_
  refine kq_call (va_runV (As := [.ref r]) (rest := []) ⟨hx, hb, hml, hown, hts⟩ (c_Pr_trim l E h pa ga gw mm G v H hE hP hW r hr) (cwV 1 hts (kt_inV kt_w184 kt_w181 kt_w182 kt_w183 kt_w3) rfl rfl rfl (by decide +kernel) ⟨Nat.le_trans (Nat.le_of_ble_eq_true rfl) hRf, Nat.le_trans (Nat.le_of_ble_eq_true rfl) hRl⟩) (kq_preV (kr_st E) hB (kq_recv hB.1 (kr_obj hW hP.1 hP.2.1) rfl)) rfl rfl hl.1 rfl (lv_room (Nat.le_of_ble_eq_true rfl)) d2 ⟨Nat.zero_le _, Nat.zero_le _⟩) (fun v9 H9 L9 hq9 hL9 => ?_)
  obtain ⟨rfl, hW9⟩ := hq9
  exact kk H9 L9 hW9 hL9
end
theorem d_Pr_sum_0 : decode b_Pr_sum 0 = .ok (.aload_n 1, 1) := by decide +kernel
theorem d_Pr_sum_1 : decode b_Pr_sum 1 = .ok (.aload_n 2, 1) := by decide +kernel
theorem d_Pr_sum_2 : decode b_Pr_sum 2 = .ok (.aload_n 3, 1) := by decide +kernel
theorem d_Pr_sum_3 : decode b_Pr_sum 3 = .ok (.invokestatic 47, 3) := by decide +kernel
theorem d_Pr_sum_6 : decode b_Pr_sum 6 = .ok (.lstore 4, 2) := by decide +kernel
theorem d_Pr_sum_8 : decode b_Pr_sum 8 = .ok (.iconst 0, 1) := by decide +kernel
theorem d_Pr_sum_9 : decode b_Pr_sum 9 = .ok (.istore 6, 2) := by decide +kernel
theorem d_Pr_sum_11 : decode b_Pr_sum 11 = .ok (.iload 6, 2) := by decide +kernel
theorem d_Pr_sum_13 : decode b_Pr_sum 13 = .ok (.iconst 2, 1) := by decide +kernel
theorem d_Pr_sum_14 : decode b_Pr_sum 14 = .ok (.if_icmp .ge 27, 3) := by decide +kernel
theorem d_Pr_sum_17 : decode b_Pr_sum 17 = .ok (.lload 4, 2) := by decide +kernel
theorem d_Pr_sum_19 : decode b_Pr_sum 19 = .ok (.lconst 0, 1) := by decide +kernel
theorem d_Pr_sum_20 : decode b_Pr_sum 20 = .ok (.lcmp, 1) := by decide +kernel
theorem d_Pr_sum_21 : decode b_Pr_sum 21 = .ok (.ifCond .eq 20, 3) := by decide +kernel
theorem d_Pr_sum_24 : decode b_Pr_sum 24 = .ok (.aload_n 1, 1) := by decide +kernel
theorem d_Pr_sum_25 : decode b_Pr_sum 25 = .ok (.aload_n 1, 1) := by decide +kernel
theorem d_Pr_sum_26 : decode b_Pr_sum 26 = .ok (.aload_n 0, 1) := by decide +kernel
theorem d_Pr_sum_27 : decode b_Pr_sum 27 = .ok (.getfield 30, 3) := by decide +kernel
theorem d_Pr_sum_30 : decode b_Pr_sum 30 = .ok (.invokestatic 47, 3) := by decide +kernel
theorem d_Pr_sum_33 : decode b_Pr_sum 33 = .ok (.lstore 4, 2) := by decide +kernel
theorem d_Pr_sum_35 : decode b_Pr_sum 35 = .ok (.iinc 6 1, 3) := by decide +kernel
theorem d_Pr_sum_38 : decode b_Pr_sum 38 = .ok (.goto (-27), 3) := by decide +kernel
theorem d_Pr_sum_41 : decode b_Pr_sum 41 = .ok (.aload_n 0, 1) := by decide +kernel
theorem d_Pr_sum_42 : decode b_Pr_sum 42 = .ok (.aload_n 1, 1) := by decide +kernel
theorem d_Pr_sum_43 : decode b_Pr_sum 43 = .ok (.invokevirtual 53, 3) := by decide +kernel
theorem d_Pr_sum_46 : decode b_Pr_sum 46 = .ok (.return_, 1) := by decide +kernel
set_option maxHeartbeats 4000000 in
set_option maxRecDepth 100000 in
theorem c_Pr_sum (l : Launch) (E : kr_E) (h pa ga gw mm G : Nat) (v : Nat → Nat) (H : Heap) (hE : kr_ok E) (hP : kr_P E h pa ga gw mm G) (hW : kr_W E v H) (r a b : Nat) (hr : kr_out E r) (ha : kr_in E a) (hb0 : kr_in E b) : Met l y_Pr_sum w_Pr_sum ({ frames := 2, cells := 0, slots := 0, locals := 48 }) (kq_P [.ref h, .ref r, .ref a, .ref b] H (kr_B E)) (kq_Q (fun o H1 => o = none ∧ kr_W E (va_up v r ((v a + v b) % mm)) H1)) 0 0 (fun q => q = r) := by
  refine Met.ofW (cc := b_Pr_sum) (maxL := 7) (ret := none) (by decide) rfl ?_
  intro p e s m args below meth c s₁ B0 hml hv
  obtain ⟨rfl, hH, hB⟩ := hv
  have hx := B0.exec
  have hb := B0.bytes
  have hret := B0.returns
  have hts := atoms_spec (ws := w_Pr_sum) B0.pre
  have hown : s.vm.findClass R_Pr = some m.cls := findClass_of_methodNamed B0.named
  have hlocks := B0.notSynchronized
  rw [hH]
  have hl := lv_entry ([.ref h, .ref r, .ref a, .ref b]) (n := 7) (Nat.le_of_ble_eq_true rfl)
  rw [lg_entry_eq]
  generalize (lg_sl ([.ref h, .ref r, .ref a, .ref b]) ++ List.replicate (7 - (lg_sl ([.ref h, .ref r, .ref a, .ref b])).length) Slot.unset).toArray = ls at hl ⊢
  have hl : lv_has ls 7 [(0, .ref h), (1, .ref r), (2, .ref a), (3, .ref b)] := hl
  have hT := kr_T hE hB
  have hK := hB.1
  have hvg := hP.gap hW
  have hok := hP.2.2.2.2.1
  have hsa := kr_src hE hW hB ha
  have hsb := kr_src hE hW hB hb0
  have hla := kr_lt hE hW ha
  have hlb := kr_lt hE hW hb0
  have hlr := kr_lt hE hW (Or.inl hr)
  have hlg := kr_lt hE hW (Or.inr hP.2.2.2.1.1)
  rw [hvg] at hlg
  have hrr := kr_row hW hr
  have hend : ∀ (V : Nat) (H1 : Heap) (ls : Array Slot) (L : List Loc), V < kw_M 8 → V % mm = (v a + v b) % mm → H1 = kq_set H r (kq_L (kr_c E) 8 V) → (∀ q ∈ L, q.base = r) → lv_has ls 7 [(0, .ref h), (1, .ref r)] → W p l e (headSpec w_Pr_sum ({ frames := 2, cells := 0, slots := 0, locals := 48 })).room s m [.ref h, .ref r, .ref a, .ref b].toArray below meth c H1 L 0 0 (MQ below (kq_Q (fun o H1 => o = none ∧ kr_W E (va_up v r ((v a + v b) % mm)) H1)) [.ref h, .ref r, .ref a, .ref b].toArray s 0 0 (fun q => q = r)) (F0 m 41 ls []) := by
    intro V H1 ls L hV hVm hH1 hL hl
    subst hH1
    have hW1 := kr_put hE hW hr hV
    refine kr_trimEnd (k0 := 0) (k1 := 1) hx hb hts hown hml hE hP hW1 hB hr (Nat.le_of_ble_eq_true rfl) (Nat.le_of_ble_eq_true rfl) hl rfl rfl d_Pr_sum_41 d_Pr_sum_42 d_Pr_sum_43 (fun H2 L2 hW2 hL2 => ?_)
    refine W.vret hx hb hret (fun t ht _ => ⟨_, rfl, rfl, ?_⟩) (t_lL (free := fun q => q = r) hL hL2) d_Pr_sum_46
    rw [ht]
    refine kr_same (fun q => ?_) hW2
    by_cases e : q = r
    · subst e
      rw [kq_up_at, kq_up_at, kq_up_at, hVm]
    · rw [kq_up_ne e, kq_up_ne e, kq_up_ne e]
  refine lv_aload_n hx hb d_Pr_sum_0 rfl (lv_at hl 1 rfl) ?_
  refine lv_aload_n hx hb d_Pr_sum_1 rfl (lv_at hl 2 rfl) ?_
  refine lv_aload_n hx hb d_Pr_sum_2 rfl (lv_at hl 3 rfl) ?_
  refine kq_call (va_runS (As := [.ref r, .ref a, .ref b]) (rest := []) ⟨hx, hb, hml, hown, hts⟩ (c_Wo_sumInto l (kr_c E) H r a b (v r) (v a) (v b) hlr hla hlb hrr) (va_cwS 3 hts (kt_inS kt_w179 kt_w177 kt_w178 kt_w6) rfl rfl rfl (by decide +kernel) ⟨Nat.le_of_ble_eq_true rfl, Nat.le_of_ble_eq_true rfl⟩) (kq_preS (kq_st_A.both (kq_st_r.both kq_st_r)) (⟨hT, hsa, hsb⟩)) rfl rfl hl.1 rfl (lv_room (Nat.le_of_ble_eq_true rfl)) d_Pr_sum_3 ⟨Nat.zero_le _, Nat.zero_le _⟩) (fun v9 H9 L9 hq9 hL9 => ?_)
  obtain ⟨rfl, rfl⟩ := hq9
  refine W.eq (g2 := F0 m 6 ls [.long (lN ((v a + v b) / kw_M 8))]) rfl ?_
  refine lv_lstore hx hb d_Pr_sum_6 hl (by decide) rfl (fun ls hl => ?_)
  have hl : lv_has ls 7 [(4, .long (lN ((v a + v b) / kw_M 8))), (0, .ref h), (1, .ref r), (2, .ref a), (3, .ref b)] := hl
  refine lv_iconst (v := nI 0) hx hb d_Pr_sum_8 (by decide) ?_
  refine lv_istore hx hb d_Pr_sum_9 hl (by decide) rfl (fun ls hl => ?_)
  have hl : lv_has ls 7 [(6, .int (nI 0)), (4, .long (lN ((v a + v b) / kw_M 8))), (0, .ref h), (1, .ref r), (2, .ref a), (3, .ref b)] := hl
  have hV0 : (v a + v b) % kw_M 8 < kw_M 8 := Nat.mod_lt _ (kw_M_pos 8)
  refine lv_iload hx hb d_Pr_sum_11 (lv_at hl 0 rfl) ?_
  refine lv_iconst (v := nI 2) hx hb d_Pr_sum_13 (by decide) ?_
  refine lv_icmp_ge hx hb d_Pr_sum_14 rfl (fun hc => ?_) (fun hc => ?_)
  · exact absurd hc (nI_ge (by decide) (by decide))
  · refine lv_lload hx hb d_Pr_sum_17 (lv_at hl 1 rfl) ?_
    refine lv_lconst (v := lN 0) hx hb d_Pr_sum_19 (by decide) ?_
    refine W.lcmp hx hb d_Pr_sum_20 ?_
    refine lv_if_eq hx hb d_Pr_sum_21 rfl (fun hc0 => ?_) (fun hc0 => ?_)
    · have z0 : (v a + v b) / kw_M 8 = 0 := (kq_cz hla hlb).mp hc0
      exact hend _ _ ls L9 hV0 (by
              have q := kp_sum_eq hok hla hlb
              unfold kp_sum at q
              rw [if_pos z0] at q
              exact q) rfl hL9 (lv_sub hl [2, 3] rfl)
    · have z0 : ¬ (v a + v b) / kw_M 8 = 0 := fun q => hc0 ((kq_cz hla hlb).mpr q)
      have hW0 := kr_put hE hW hr hV0
      have hO := kr_obj hW0 hP.1 hP.2.1
      have hrr0 := kr_row hW0 hr
      have hsr0 := kr_src hE hW0 hB (Or.inl hr)
      have hsg0 := kr_src hE hW0 hB (Or.inr hP.2.2.2.1.1)
      have hvg0 := hP.gap hW0
      rw [hvg0] at hsg0
      rw [kq_up_at] at hsr0 hrr0
      refine lv_aload_n hx hb d_Pr_sum_24 rfl (lv_at hl 3 rfl) ?_
      refine lv_aload_n hx hb d_Pr_sum_25 rfl (lv_at hl 3 rfl) ?_
      refine lv_aload_n hx hb d_Pr_sum_26 rfl (lv_at hl 2 rfl) ?_
      refine kq_get hx hb hts kt_F_Pr hown hK hO rfl 1 (by decide) kt_w62 rfl d_Pr_sum_27 ?_
      refine kq_call (va_runS (As := [.ref r, .ref r, .ref ga]) (rest := []) ⟨hx, hb, hml, hown, hts⟩ (c_Wo_sumInto l (kr_c E) (kq_set H r (kq_L (kr_c E) 8 ((v a + v b) % kw_M 8))) r r ga ((v a + v b) % kw_M 8) ((v a + v b) % kw_M 8) G hV0 hV0 hlg hrr0) (va_cwS 3 hts (kt_inS kt_w179 kt_w177 kt_w178 kt_w6) rfl rfl rfl (by decide +kernel) ⟨Nat.le_of_ble_eq_true rfl, Nat.le_of_ble_eq_true rfl⟩) (kq_preS (kq_st_A.both (kq_st_r.both kq_st_r)) (⟨hT, hsr0, hsg0⟩)) rfl rfl hl.1 rfl (lv_room (Nat.le_of_ble_eq_true rfl)) d_Pr_sum_30 ⟨Nat.zero_le _, Nat.zero_le _⟩) (fun v1 H1 L1 hq1 hL1 => ?_)
      obtain ⟨rfl, rfl⟩ := hq1
      refine W.eq (g2 := F0 m 33 ls [.long (lN (((v a + v b) % kw_M 8 + G) / kw_M 8))]) rfl ?_
      refine kq_rH (kq_set_set _ _ _ _) ?_
      have hV1 : ((v a + v b) % kw_M 8 + G) % kw_M 8 < kw_M 8 := Nat.mod_lt _ (kw_M_pos 8)
      refine lv_lstore hx hb d_Pr_sum_33 hl (by decide) rfl (fun ls hl => ?_)
      have hl : lv_has ls 7 [(4, .long (lN (((v a + v b) % kw_M 8 + G) / kw_M 8))), (6, .int (nI 0)), (0, .ref h), (1, .ref r), (2, .ref a), (3, .ref b)] := hl
      refine lv_iinc (k := 1) (v := nI 1) hx hb d_Pr_sum_35 hl rfl (by decide) (by decide) rfl (fun ls hl => ?_)
      have hl : lv_has ls 7 [(6, .int (nI 1)), (4, .long (lN (((v a + v b) % kw_M 8 + G) / kw_M 8))), (0, .ref h), (1, .ref r), (2, .ref a), (3, .ref b)] := hl
      refine lv_goto hx hb d_Pr_sum_38 rfl ?_
      refine lv_iload hx hb d_Pr_sum_11 (lv_at hl 0 rfl) ?_
      refine lv_iconst (v := nI 2) hx hb d_Pr_sum_13 (by decide) ?_
      refine lv_icmp_ge hx hb d_Pr_sum_14 rfl (fun hc => ?_) (fun hc => ?_)
      · exact absurd hc (nI_ge (by decide) (by decide))
      · refine lv_lload hx hb d_Pr_sum_17 (lv_at hl 1 rfl) ?_
        refine lv_lconst (v := lN 0) hx hb d_Pr_sum_19 (by decide) ?_
        refine W.lcmp hx hb d_Pr_sum_20 ?_
        refine lv_if_eq hx hb d_Pr_sum_21 rfl (fun hc1 => ?_) (fun hc1 => ?_)
        · have z1 : ((v a + v b) % kw_M 8 + G) / kw_M 8 = 0 := (kq_cz hV0 hlg).mp hc1
          exact hend _ _ ls _ hV1 (by
                  have q := kp_sum_eq hok hla hlb
                  unfold kp_sum at q
                  rw [if_neg z0, if_pos z1] at q
                  exact q) rfl (t_lL (free := fun q => q = r) hL9 hL1) (lv_sub hl [2, 3] rfl)
        · have z1 : ¬ ((v a + v b) % kw_M 8 + G) / kw_M 8 = 0 := fun q => hc1 ((kq_cz hV0 hlg).mpr q)
          have hW1 := kr_put hE hW hr hV1
          have hO := kr_obj hW1 hP.1 hP.2.1
          have hrr1 := kr_row hW1 hr
          have hsr1 := kr_src hE hW1 hB (Or.inl hr)
          have hsg1 := kr_src hE hW1 hB (Or.inr hP.2.2.2.1.1)
          have hvg1 := hP.gap hW1
          rw [hvg1] at hsg1
          rw [kq_up_at] at hsr1 hrr1
          refine lv_aload_n hx hb d_Pr_sum_24 rfl (lv_at hl 3 rfl) ?_
          refine lv_aload_n hx hb d_Pr_sum_25 rfl (lv_at hl 3 rfl) ?_
          refine lv_aload_n hx hb d_Pr_sum_26 rfl (lv_at hl 2 rfl) ?_
          refine kq_get hx hb hts kt_F_Pr hown hK hO rfl 1 (by decide) kt_w62 rfl d_Pr_sum_27 ?_
          refine kq_call (va_runS (As := [.ref r, .ref r, .ref ga]) (rest := []) ⟨hx, hb, hml, hown, hts⟩ (c_Wo_sumInto l (kr_c E) (kq_set H r (kq_L (kr_c E) 8 (((v a + v b) % kw_M 8 + G) % kw_M 8))) r r ga (((v a + v b) % kw_M 8 + G) % kw_M 8) (((v a + v b) % kw_M 8 + G) % kw_M 8) G hV1 hV1 hlg hrr1) (va_cwS 3 hts (kt_inS kt_w179 kt_w177 kt_w178 kt_w6) rfl rfl rfl (by decide +kernel) ⟨Nat.le_of_ble_eq_true rfl, Nat.le_of_ble_eq_true rfl⟩) (kq_preS (kq_st_A.both (kq_st_r.both kq_st_r)) (⟨hT, hsr1, hsg1⟩)) rfl rfl hl.1 rfl (lv_room (Nat.le_of_ble_eq_true rfl)) d_Pr_sum_30 ⟨Nat.zero_le _, Nat.zero_le _⟩) (fun v2 H2 L2 hq2 hL2 => ?_)
          obtain ⟨rfl, rfl⟩ := hq2
          refine W.eq (g2 := F0 m 33 ls [.long (lN ((((v a + v b) % kw_M 8 + G) % kw_M 8 + G) / kw_M 8))]) rfl ?_
          refine kq_rH (kq_set_set _ _ _ _) ?_
          have hV2 : (((v a + v b) % kw_M 8 + G) % kw_M 8 + G) % kw_M 8 < kw_M 8 := Nat.mod_lt _ (kw_M_pos 8)
          refine lv_lstore hx hb d_Pr_sum_33 hl (by decide) rfl (fun ls hl => ?_)
          have hl : lv_has ls 7 [(4, .long (lN ((((v a + v b) % kw_M 8 + G) % kw_M 8 + G) / kw_M 8))), (6, .int (nI 1)), (0, .ref h), (1, .ref r), (2, .ref a), (3, .ref b)] := hl
          refine lv_iinc (k := 1) (v := nI 2) hx hb d_Pr_sum_35 hl rfl (by decide) (by decide) rfl (fun ls hl => ?_)
          have hl : lv_has ls 7 [(6, .int (nI 2)), (4, .long (lN ((((v a + v b) % kw_M 8 + G) % kw_M 8 + G) / kw_M 8))), (0, .ref h), (1, .ref r), (2, .ref a), (3, .ref b)] := hl
          refine lv_goto hx hb d_Pr_sum_38 rfl ?_
          refine lv_iload hx hb d_Pr_sum_11 (lv_at hl 0 rfl) ?_
          refine lv_iconst (v := nI 2) hx hb d_Pr_sum_13 (by decide) ?_
          refine lv_icmp_ge hx hb d_Pr_sum_14 rfl (fun hc => ?_) (fun hc => ?_)
          · exact hend _ _ ls _ hV2 (by
                    have q := kp_sum_eq hok hla hlb
                    unfold kp_sum at q
                    rw [if_neg z0, if_neg z1] at q
                    exact q) rfl (t_lL (free := fun q => q = r) (t_lL (free := fun q => q = r) hL9 hL1) hL2) (lv_sub hl [2, 3] rfl)
          · exact absurd (nI_le (Nat.le_refl 2) (by decide)) hc
theorem d_Pr_difference_0 : decode b_Pr_difference 0 = .ok (.aload_n 1, 1) := by decide +kernel
theorem d_Pr_difference_1 : decode b_Pr_difference 1 = .ok (.aload_n 2, 1) := by decide +kernel
theorem d_Pr_difference_2 : decode b_Pr_difference 2 = .ok (.aload_n 3, 1) := by decide +kernel
theorem d_Pr_difference_3 : decode b_Pr_difference 3 = .ok (.invokestatic 57, 3) := by decide +kernel
theorem d_Pr_difference_6 : decode b_Pr_difference 6 = .ok (.lstore 4, 2) := by decide +kernel
theorem d_Pr_difference_8 : decode b_Pr_difference 8 = .ok (.iconst 0, 1) := by decide +kernel
theorem d_Pr_difference_9 : decode b_Pr_difference 9 = .ok (.istore 6, 2) := by decide +kernel
theorem d_Pr_difference_11 : decode b_Pr_difference 11 = .ok (.iload 6, 2) := by decide +kernel
theorem d_Pr_difference_13 : decode b_Pr_difference 13 = .ok (.iconst 2, 1) := by decide +kernel
theorem d_Pr_difference_14 : decode b_Pr_difference 14 = .ok (.if_icmp .ge 27, 3) := by decide +kernel
theorem d_Pr_difference_17 : decode b_Pr_difference 17 = .ok (.lload 4, 2) := by decide +kernel
theorem d_Pr_difference_19 : decode b_Pr_difference 19 = .ok (.lconst 0, 1) := by decide +kernel
theorem d_Pr_difference_20 : decode b_Pr_difference 20 = .ok (.lcmp, 1) := by decide +kernel
theorem d_Pr_difference_21 : decode b_Pr_difference 21 = .ok (.ifCond .eq 20, 3) := by decide +kernel
theorem d_Pr_difference_24 : decode b_Pr_difference 24 = .ok (.aload_n 1, 1) := by decide +kernel
theorem d_Pr_difference_25 : decode b_Pr_difference 25 = .ok (.aload_n 1, 1) := by decide +kernel
theorem d_Pr_difference_26 : decode b_Pr_difference 26 = .ok (.aload_n 0, 1) := by decide +kernel
theorem d_Pr_difference_27 : decode b_Pr_difference 27 = .ok (.getfield 30, 3) := by decide +kernel
theorem d_Pr_difference_30 : decode b_Pr_difference 30 = .ok (.invokestatic 57, 3) := by decide +kernel
theorem d_Pr_difference_33 : decode b_Pr_difference 33 = .ok (.lstore 4, 2) := by decide +kernel
theorem d_Pr_difference_35 : decode b_Pr_difference 35 = .ok (.iinc 6 1, 3) := by decide +kernel
theorem d_Pr_difference_38 : decode b_Pr_difference 38 = .ok (.goto (-27), 3) := by decide +kernel
theorem d_Pr_difference_41 : decode b_Pr_difference 41 = .ok (.aload_n 0, 1) := by decide +kernel
theorem d_Pr_difference_42 : decode b_Pr_difference 42 = .ok (.aload_n 1, 1) := by decide +kernel
theorem d_Pr_difference_43 : decode b_Pr_difference 43 = .ok (.invokevirtual 53, 3) := by decide +kernel
theorem d_Pr_difference_46 : decode b_Pr_difference 46 = .ok (.return_, 1) := by decide +kernel
set_option maxHeartbeats 4000000 in
set_option maxRecDepth 100000 in
theorem c_Pr_difference (l : Launch) (E : kr_E) (h pa ga gw mm G : Nat) (v : Nat → Nat) (H : Heap) (hE : kr_ok E) (hP : kr_P E h pa ga gw mm G) (hW : kr_W E v H) (r a b : Nat) (hr : kr_out E r) (ha : kr_in E a) (hb0 : kr_in E b) : Met l y_Pr_difference w_Pr_difference ({ frames := 2, cells := 0, slots := 0, locals := 48 }) (kq_P [.ref h, .ref r, .ref a, .ref b] H (kr_B E)) (kq_Q (fun o H1 => o = none ∧ kr_W E (va_up v r (kp_dif mm (v a) (v b))) H1)) 0 0 (fun q => q = r) := by
  refine Met.ofW (cc := b_Pr_difference) (maxL := 7) (ret := none) (by decide) rfl ?_
  intro p e s m args below meth c s₁ B0 hml hv
  obtain ⟨rfl, hH, hB⟩ := hv
  have hx := B0.exec
  have hb := B0.bytes
  have hret := B0.returns
  have hts := atoms_spec (ws := w_Pr_difference) B0.pre
  have hown : s.vm.findClass R_Pr = some m.cls := findClass_of_methodNamed B0.named
  have hlocks := B0.notSynchronized
  rw [hH]
  have hl := lv_entry ([.ref h, .ref r, .ref a, .ref b]) (n := 7) (Nat.le_of_ble_eq_true rfl)
  rw [lg_entry_eq]
  generalize (lg_sl ([.ref h, .ref r, .ref a, .ref b]) ++ List.replicate (7 - (lg_sl ([.ref h, .ref r, .ref a, .ref b])).length) Slot.unset).toArray = ls at hl ⊢
  have hl : lv_has ls 7 [(0, .ref h), (1, .ref r), (2, .ref a), (3, .ref b)] := hl
  have hT := kr_T hE hB
  have hK := hB.1
  have hvg := hP.gap hW
  have hok := hP.2.2.2.2.1
  have hsa := kr_src hE hW hB ha
  have hsb := kr_src hE hW hB hb0
  have hla := kr_lt hE hW ha
  have hlb := kr_lt hE hW hb0
  have hlr := kr_lt hE hW (Or.inl hr)
  have hlg := kr_lt hE hW (Or.inr hP.2.2.2.1.1)
  rw [hvg] at hlg
  have hrr := kr_row hW hr
  have hend : ∀ (V : Nat) (H1 : Heap) (ls : Array Slot) (L : List Loc), V < kw_M 8 → V % mm = kp_dif mm (v a) (v b) → H1 = kq_set H r (kq_L (kr_c E) 8 V) → (∀ q ∈ L, q.base = r) → lv_has ls 7 [(0, .ref h), (1, .ref r)] → W p l e (headSpec w_Pr_difference ({ frames := 2, cells := 0, slots := 0, locals := 48 })).room s m [.ref h, .ref r, .ref a, .ref b].toArray below meth c H1 L 0 0 (MQ below (kq_Q (fun o H1 => o = none ∧ kr_W E (va_up v r (kp_dif mm (v a) (v b))) H1)) [.ref h, .ref r, .ref a, .ref b].toArray s 0 0 (fun q => q = r)) (F0 m 41 ls []) := by
    intro V H1 ls L hV hVm hH1 hL hl
    subst hH1
    have hW1 := kr_put hE hW hr hV
    refine kr_trimEnd (k0 := 0) (k1 := 1) hx hb hts hown hml hE hP hW1 hB hr (Nat.le_of_ble_eq_true rfl) (Nat.le_of_ble_eq_true rfl) hl rfl rfl d_Pr_difference_41 d_Pr_difference_42 d_Pr_difference_43 (fun H2 L2 hW2 hL2 => ?_)
    refine W.vret hx hb hret (fun t ht _ => ⟨_, rfl, rfl, ?_⟩) (t_lL (free := fun q => q = r) hL hL2) d_Pr_difference_46
    rw [ht]
    refine kr_same (fun q => ?_) hW2
    by_cases e : q = r
    · subst e
      rw [kq_up_at, kq_up_at, kq_up_at, hVm]
    · rw [kq_up_ne e, kq_up_ne e, kq_up_ne e]
  refine lv_aload_n hx hb d_Pr_difference_0 rfl (lv_at hl 1 rfl) ?_
  refine lv_aload_n hx hb d_Pr_difference_1 rfl (lv_at hl 2 rfl) ?_
  refine lv_aload_n hx hb d_Pr_difference_2 rfl (lv_at hl 3 rfl) ?_
  refine kq_call (va_runS (As := [.ref r, .ref a, .ref b]) (rest := []) ⟨hx, hb, hml, hown, hts⟩ (c_Wo_differenceInto l (kr_c E) H r a b (v r) (v a) (v b) hlr hla hlb hrr) (va_cwS 3 hts (kt_inS kt_w190 kt_w188 kt_w189 kt_w6) rfl rfl rfl (by decide +kernel) ⟨Nat.le_of_ble_eq_true rfl, Nat.le_of_ble_eq_true rfl⟩) (kq_preS (kq_st_A.both (kq_st_r.both kq_st_r)) (⟨hT, hsa, hsb⟩)) rfl rfl hl.1 rfl (lv_room (Nat.le_of_ble_eq_true rfl)) d_Pr_difference_3 ⟨Nat.zero_le _, Nat.zero_le _⟩) (fun v9 H9 L9 hq9 hL9 => ?_)
  obtain ⟨rfl, rfl⟩ := hq9
  refine W.eq (g2 := F0 m 6 ls [.long (lN (if v a < v b then 1 else 0))]) rfl ?_
  refine lv_lstore hx hb d_Pr_difference_6 hl (by decide) rfl (fun ls hl => ?_)
  have hl : lv_has ls 7 [(4, .long (lN (if v a < v b then 1 else 0))), (0, .ref h), (1, .ref r), (2, .ref a), (3, .ref b)] := hl
  refine lv_iconst (v := nI 0) hx hb d_Pr_difference_8 (by decide) ?_
  refine lv_istore hx hb d_Pr_difference_9 hl (by decide) rfl (fun ls hl => ?_)
  have hl : lv_has ls 7 [(6, .int (nI 0)), (4, .long (lN (if v a < v b then 1 else 0))), (0, .ref h), (1, .ref r), (2, .ref a), (3, .ref b)] := hl
  have hV0 : kw_sub (v a) (v b) < kw_M 8 := kw_sub_lt _ _
  refine lv_iload hx hb d_Pr_difference_11 (lv_at hl 0 rfl) ?_
  refine lv_iconst (v := nI 2) hx hb d_Pr_difference_13 (by decide) ?_
  refine lv_icmp_ge hx hb d_Pr_difference_14 rfl (fun hc => ?_) (fun hc => ?_)
  · exact absurd hc (nI_ge (by decide) (by decide))
  · refine lv_lload hx hb d_Pr_difference_17 (lv_at hl 1 rfl) ?_
    refine lv_lconst (v := lN 0) hx hb d_Pr_difference_19 (by decide) ?_
    refine W.lcmp hx hb d_Pr_difference_20 ?_
    refine lv_if_eq hx hb d_Pr_difference_21 rfl (fun hc0 => ?_) (fun hc0 => ?_)
    · have z0 : ¬ v a < v b := fun q => by
        rw [if_pos q] at hc0
        exact absurd hc0 (by decide)
      exact hend _ _ ls L9 hV0 (by
              have q := kp_sub_eq hok hla hlb
              unfold kp_sub at q
              rw [if_pos z0] at q
              exact q) rfl hL9 (lv_sub hl [2, 3] rfl)
    · have z0 : ¬ ¬ v a < v b := fun q => by
        rw [if_neg q] at hc0
        exact absurd rfl hc0
      have hW0 := kr_put hE hW hr hV0
      have hO := kr_obj hW0 hP.1 hP.2.1
      have hrr0 := kr_row hW0 hr
      have hsr0 := kr_src hE hW0 hB (Or.inl hr)
      have hsg0 := kr_src hE hW0 hB (Or.inr hP.2.2.2.1.1)
      have hvg0 := hP.gap hW0
      rw [hvg0] at hsg0
      rw [kq_up_at] at hsr0 hrr0
      refine lv_aload_n hx hb d_Pr_difference_24 rfl (lv_at hl 3 rfl) ?_
      refine lv_aload_n hx hb d_Pr_difference_25 rfl (lv_at hl 3 rfl) ?_
      refine lv_aload_n hx hb d_Pr_difference_26 rfl (lv_at hl 2 rfl) ?_
      refine kq_get hx hb hts kt_F_Pr hown hK hO rfl 1 (by decide) kt_w62 rfl d_Pr_difference_27 ?_
      refine kq_call (va_runS (As := [.ref r, .ref r, .ref ga]) (rest := []) ⟨hx, hb, hml, hown, hts⟩ (c_Wo_differenceInto l (kr_c E) (kq_set H r (kq_L (kr_c E) 8 (kw_sub (v a) (v b)))) r r ga (kw_sub (v a) (v b)) (kw_sub (v a) (v b)) G hV0 hV0 hlg hrr0) (va_cwS 3 hts (kt_inS kt_w190 kt_w188 kt_w189 kt_w6) rfl rfl rfl (by decide +kernel) ⟨Nat.le_of_ble_eq_true rfl, Nat.le_of_ble_eq_true rfl⟩) (kq_preS (kq_st_A.both (kq_st_r.both kq_st_r)) (⟨hT, hsr0, hsg0⟩)) rfl rfl hl.1 rfl (lv_room (Nat.le_of_ble_eq_true rfl)) d_Pr_difference_30 ⟨Nat.zero_le _, Nat.zero_le _⟩) (fun v1 H1 L1 hq1 hL1 => ?_)
      obtain ⟨rfl, rfl⟩ := hq1
      refine W.eq (g2 := F0 m 33 ls [.long (lN (if kw_sub (v a) (v b) < G then 1 else 0))]) rfl ?_
      refine kq_rH (kq_set_set _ _ _ _) ?_
      have hV1 : kw_sub (kw_sub (v a) (v b)) G < kw_M 8 := kw_sub_lt _ _
      refine lv_lstore hx hb d_Pr_difference_33 hl (by decide) rfl (fun ls hl => ?_)
      have hl : lv_has ls 7 [(4, .long (lN (if kw_sub (v a) (v b) < G then 1 else 0))), (6, .int (nI 0)), (0, .ref h), (1, .ref r), (2, .ref a), (3, .ref b)] := hl
      refine lv_iinc (k := 1) (v := nI 1) hx hb d_Pr_difference_35 hl rfl (by decide) (by decide) rfl (fun ls hl => ?_)
      have hl : lv_has ls 7 [(6, .int (nI 1)), (4, .long (lN (if kw_sub (v a) (v b) < G then 1 else 0))), (0, .ref h), (1, .ref r), (2, .ref a), (3, .ref b)] := hl
      refine lv_goto hx hb d_Pr_difference_38 rfl ?_
      refine lv_iload hx hb d_Pr_difference_11 (lv_at hl 0 rfl) ?_
      refine lv_iconst (v := nI 2) hx hb d_Pr_difference_13 (by decide) ?_
      refine lv_icmp_ge hx hb d_Pr_difference_14 rfl (fun hc => ?_) (fun hc => ?_)
      · exact absurd hc (nI_ge (by decide) (by decide))
      · refine lv_lload hx hb d_Pr_difference_17 (lv_at hl 1 rfl) ?_
        refine lv_lconst (v := lN 0) hx hb d_Pr_difference_19 (by decide) ?_
        refine W.lcmp hx hb d_Pr_difference_20 ?_
        refine lv_if_eq hx hb d_Pr_difference_21 rfl (fun hc1 => ?_) (fun hc1 => ?_)
        · have z1 : ¬ kw_sub (v a) (v b) < G := fun q => by
            rw [if_pos q] at hc1
            exact absurd hc1 (by decide)
          exact hend _ _ ls _ hV1 (by
                  have q := kp_sub_eq hok hla hlb
                  unfold kp_sub at q
                  rw [if_neg z0, if_pos z1] at q
                  exact q) rfl (t_lL (free := fun q => q = r) hL9 hL1) (lv_sub hl [2, 3] rfl)
        · have z1 : ¬ ¬ kw_sub (v a) (v b) < G := fun q => by
            rw [if_neg q] at hc1
            exact absurd rfl hc1
          have hW1 := kr_put hE hW hr hV1
          have hO := kr_obj hW1 hP.1 hP.2.1
          have hrr1 := kr_row hW1 hr
          have hsr1 := kr_src hE hW1 hB (Or.inl hr)
          have hsg1 := kr_src hE hW1 hB (Or.inr hP.2.2.2.1.1)
          have hvg1 := hP.gap hW1
          rw [hvg1] at hsg1
          rw [kq_up_at] at hsr1 hrr1
          refine lv_aload_n hx hb d_Pr_difference_24 rfl (lv_at hl 3 rfl) ?_
          refine lv_aload_n hx hb d_Pr_difference_25 rfl (lv_at hl 3 rfl) ?_
          refine lv_aload_n hx hb d_Pr_difference_26 rfl (lv_at hl 2 rfl) ?_
          refine kq_get hx hb hts kt_F_Pr hown hK hO rfl 1 (by decide) kt_w62 rfl d_Pr_difference_27 ?_
          refine kq_call (va_runS (As := [.ref r, .ref r, .ref ga]) (rest := []) ⟨hx, hb, hml, hown, hts⟩ (c_Wo_differenceInto l (kr_c E) (kq_set H r (kq_L (kr_c E) 8 (kw_sub (kw_sub (v a) (v b)) G))) r r ga (kw_sub (kw_sub (v a) (v b)) G) (kw_sub (kw_sub (v a) (v b)) G) G hV1 hV1 hlg hrr1) (va_cwS 3 hts (kt_inS kt_w190 kt_w188 kt_w189 kt_w6) rfl rfl rfl (by decide +kernel) ⟨Nat.le_of_ble_eq_true rfl, Nat.le_of_ble_eq_true rfl⟩) (kq_preS (kq_st_A.both (kq_st_r.both kq_st_r)) (⟨hT, hsr1, hsg1⟩)) rfl rfl hl.1 rfl (lv_room (Nat.le_of_ble_eq_true rfl)) d_Pr_difference_30 ⟨Nat.zero_le _, Nat.zero_le _⟩) (fun v2 H2 L2 hq2 hL2 => ?_)
          obtain ⟨rfl, rfl⟩ := hq2
          refine W.eq (g2 := F0 m 33 ls [.long (lN (if kw_sub (kw_sub (v a) (v b)) G < G then 1 else 0))]) rfl ?_
          refine kq_rH (kq_set_set _ _ _ _) ?_
          have hV2 : kw_sub (kw_sub (kw_sub (v a) (v b)) G) G < kw_M 8 := kw_sub_lt _ _
          refine lv_lstore hx hb d_Pr_difference_33 hl (by decide) rfl (fun ls hl => ?_)
          have hl : lv_has ls 7 [(4, .long (lN (if kw_sub (kw_sub (v a) (v b)) G < G then 1 else 0))), (6, .int (nI 1)), (0, .ref h), (1, .ref r), (2, .ref a), (3, .ref b)] := hl
          refine lv_iinc (k := 1) (v := nI 2) hx hb d_Pr_difference_35 hl rfl (by decide) (by decide) rfl (fun ls hl => ?_)
          have hl : lv_has ls 7 [(6, .int (nI 2)), (4, .long (lN (if kw_sub (kw_sub (v a) (v b)) G < G then 1 else 0))), (0, .ref h), (1, .ref r), (2, .ref a), (3, .ref b)] := hl
          refine lv_goto hx hb d_Pr_difference_38 rfl ?_
          refine lv_iload hx hb d_Pr_difference_11 (lv_at hl 0 rfl) ?_
          refine lv_iconst (v := nI 2) hx hb d_Pr_difference_13 (by decide) ?_
          refine lv_icmp_ge hx hb d_Pr_difference_14 rfl (fun hc => ?_) (fun hc => ?_)
          · exact hend _ _ ls _ hV2 (by
                    have q := kp_sub_eq hok hla hlb
                    unfold kp_sub at q
                    rw [if_neg z0, if_neg z1] at q
                    exact q) rfl (t_lL (free := fun q => q = r) (t_lL (free := fun q => q = r) hL9 hL1) hL2) (lv_sub hl [2, 3] rfl)
          · exact absurd (nI_le (Nat.le_refl 2) (by decide)) hc
end
section
/-! KeyCurve$Prime: addRow, takeHigh (own rows). -/
theorem kw_s_eq (V k x : Nat) : kw_s V k x + kw_M k * kw_d V k = V + kw_M k * x := by
  have h := kw_d_cut V k
  unfold kw_s
  rw [Nat.mul_add] at h
  omega
theorem kp_row_step {V V' c c' f r w x s M Mj Ma R0 V0 : Nat} (h1 : V' + M * w = V + M * x) (h2 : s = f * r + w + c) (h3 : s = 4294967296 * c' + x) (hM : M = Ma * Mj) (hI : V + c * M = V0 + f * R0 * Ma) : V' + c' * (M * 4294967296) = V0 + f * (R0 + Mj * r) * Ma := by
  have a1 : M * s = M * (f * r) + M * w + c * M := by rw [h2]; grind
  have a2 : M * s = c' * (M * 4294967296) + M * x := by rw [h3]; grind
  have a3 : f * (R0 + Mj * r) * Ma = f * R0 * Ma + M * (f * r) := by rw [hM]; grind
  omega
theorem kp_row_step2 {V V' c c' w x s M T : Nat} (h1 : V' + M * w = V + M * x) (h2 : s = w + c) (h3 : s = 4294967296 * c' + x) (hI : V + c * M = T) : V' + c' * (M * 4294967296) = T := by
  have a1 : M * s = M * w + c * M := by rw [h2]; grind
  have a2 : M * s = c' * (M * 4294967296) + M * x := by rw [h3]; grind
  omega
theorem kp_s64 {f r w c : Nat} (hf : f < 4294967296) (hr : r < 4294967296) (hw : w < 4294967296) (hc : c < 4294967296) : f * r + w + c < 18446744073709551616 := by
  have h : f * r ≤ 4294967295 * 4294967295 := Nat.mul_le_mul (by omega) (by omega)
  omega
theorem kr_in_ne {E : kr_E} {h pa ga gw mm G a : Nat} (hE : kr_ok E) (hP : kr_P E h pa ga gw mm G) (ha : kr_in E a) : a ≠ h + 1 := by
  intro e
  subst e
  have hw := hP.2.2.2.2.2.2.2.2.1
  rcases ha with ⟨-, h2⟩ | h1
  · rw [hw.2] at h2
    omega
  · exact hE.1 _ h1 hw.1
theorem d_Pr_addRow_0 : decode b_Pr_addRow 0 = .ok (.lconst 0, 1) := by decide +kernel
theorem d_Pr_addRow_1 : decode b_Pr_addRow 1 = .ok (.lstore 6, 2) := by decide +kernel
theorem d_Pr_addRow_3 : decode b_Pr_addRow 3 = .ok (.iconst 0, 1) := by decide +kernel
theorem d_Pr_addRow_4 : decode b_Pr_addRow 4 = .ok (.istore 8, 2) := by decide +kernel
theorem d_Pr_addRow_6 : decode b_Pr_addRow 6 = .ok (.iload 8, 2) := by decide +kernel
theorem d_Pr_addRow_8 : decode b_Pr_addRow 8 = .ok (.iload 4, 2) := by decide +kernel
theorem d_Pr_addRow_10 : decode b_Pr_addRow 10 = .ok (.if_icmp .ge 54, 3) := by decide +kernel
theorem d_Pr_addRow_13 : decode b_Pr_addRow 13 = .ok (.lload_n 1, 1) := by decide +kernel
theorem d_Pr_addRow_14 : decode b_Pr_addRow 14 = .ok (.aload_n 3, 1) := by decide +kernel
theorem d_Pr_addRow_15 : decode b_Pr_addRow 15 = .ok (.iload 8, 2) := by decide +kernel
theorem d_Pr_addRow_17 : decode b_Pr_addRow 17 = .ok (.laload, 1) := by decide +kernel
theorem d_Pr_addRow_18 : decode b_Pr_addRow 18 = .ok (.lmul, 1) := by decide +kernel
theorem d_Pr_addRow_19 : decode b_Pr_addRow 19 = .ok (.aload_n 0, 1) := by decide +kernel
theorem d_Pr_addRow_20 : decode b_Pr_addRow 20 = .ok (.getfield 9, 3) := by decide +kernel
theorem d_Pr_addRow_23 : decode b_Pr_addRow 23 = .ok (.iload 5, 2) := by decide +kernel
theorem d_Pr_addRow_25 : decode b_Pr_addRow 25 = .ok (.iload 8, 2) := by decide +kernel
theorem d_Pr_addRow_27 : decode b_Pr_addRow 27 = .ok (.iadd, 1) := by decide +kernel
theorem d_Pr_addRow_28 : decode b_Pr_addRow 28 = .ok (.laload, 1) := by decide +kernel
theorem d_Pr_addRow_29 : decode b_Pr_addRow 29 = .ok (.ladd, 1) := by decide +kernel
theorem d_Pr_addRow_30 : decode b_Pr_addRow 30 = .ok (.lload 6, 2) := by decide +kernel
theorem d_Pr_addRow_32 : decode b_Pr_addRow 32 = .ok (.ladd, 1) := by decide +kernel
theorem d_Pr_addRow_33 : decode b_Pr_addRow 33 = .ok (.lstore 9, 2) := by decide +kernel
theorem d_Pr_addRow_35 : decode b_Pr_addRow 35 = .ok (.aload_n 0, 1) := by decide +kernel
theorem d_Pr_addRow_36 : decode b_Pr_addRow 36 = .ok (.getfield 9, 3) := by decide +kernel
theorem d_Pr_addRow_39 : decode b_Pr_addRow 39 = .ok (.iload 5, 2) := by decide +kernel
theorem d_Pr_addRow_41 : decode b_Pr_addRow 41 = .ok (.iload 8, 2) := by decide +kernel
theorem d_Pr_addRow_43 : decode b_Pr_addRow 43 = .ok (.iadd, 1) := by decide +kernel
theorem d_Pr_addRow_44 : decode b_Pr_addRow 44 = .ok (.lload 9, 2) := by decide +kernel
theorem d_Pr_addRow_46 : decode b_Pr_addRow 46 = .ok (.ldc2_w 97, 3) := by decide +kernel
theorem d_Pr_addRow_49 : decode b_Pr_addRow 49 = .ok (.land, 1) := by decide +kernel
theorem d_Pr_addRow_50 : decode b_Pr_addRow 50 = .ok (.lastore, 1) := by decide +kernel
theorem d_Pr_addRow_51 : decode b_Pr_addRow 51 = .ok (.lload 9, 2) := by decide +kernel
theorem d_Pr_addRow_53 : decode b_Pr_addRow 53 = .ok (.bipush 32, 2) := by decide +kernel
theorem d_Pr_addRow_55 : decode b_Pr_addRow 55 = .ok (.lushr, 1) := by decide +kernel
theorem d_Pr_addRow_56 : decode b_Pr_addRow 56 = .ok (.lstore 6, 2) := by decide +kernel
theorem d_Pr_addRow_58 : decode b_Pr_addRow 58 = .ok (.iinc 8 1, 3) := by decide +kernel
theorem d_Pr_addRow_61 : decode b_Pr_addRow 61 = .ok (.goto (-55), 3) := by decide +kernel
theorem d_Pr_addRow_64 : decode b_Pr_addRow 64 = .ok (.iload 5, 2) := by decide +kernel
theorem d_Pr_addRow_66 : decode b_Pr_addRow 66 = .ok (.iload 4, 2) := by decide +kernel
theorem d_Pr_addRow_68 : decode b_Pr_addRow 68 = .ok (.iadd, 1) := by decide +kernel
theorem d_Pr_addRow_69 : decode b_Pr_addRow 69 = .ok (.istore 8, 2) := by decide +kernel
theorem d_Pr_addRow_71 : decode b_Pr_addRow 71 = .ok (.iload 8, 2) := by decide +kernel
theorem d_Pr_addRow_73 : decode b_Pr_addRow 73 = .ok (.bipush 16, 2) := by decide +kernel
theorem d_Pr_addRow_75 : decode b_Pr_addRow 75 = .ok (.if_icmp .ge 48, 3) := by decide +kernel
theorem d_Pr_addRow_78 : decode b_Pr_addRow 78 = .ok (.lload 6, 2) := by decide +kernel
theorem d_Pr_addRow_80 : decode b_Pr_addRow 80 = .ok (.lconst 0, 1) := by decide +kernel
theorem d_Pr_addRow_81 : decode b_Pr_addRow 81 = .ok (.lcmp, 1) := by decide +kernel
theorem d_Pr_addRow_82 : decode b_Pr_addRow 82 = .ok (.ifCond .eq 41, 3) := by decide +kernel
theorem d_Pr_addRow_85 : decode b_Pr_addRow 85 = .ok (.aload_n 0, 1) := by decide +kernel
theorem d_Pr_addRow_86 : decode b_Pr_addRow 86 = .ok (.getfield 9, 3) := by decide +kernel
theorem d_Pr_addRow_89 : decode b_Pr_addRow 89 = .ok (.iload 8, 2) := by decide +kernel
theorem d_Pr_addRow_91 : decode b_Pr_addRow 91 = .ok (.laload, 1) := by decide +kernel
theorem d_Pr_addRow_92 : decode b_Pr_addRow 92 = .ok (.lload 6, 2) := by decide +kernel
theorem d_Pr_addRow_94 : decode b_Pr_addRow 94 = .ok (.ladd, 1) := by decide +kernel
theorem d_Pr_addRow_95 : decode b_Pr_addRow 95 = .ok (.lstore 9, 2) := by decide +kernel
theorem d_Pr_addRow_97 : decode b_Pr_addRow 97 = .ok (.aload_n 0, 1) := by decide +kernel
theorem d_Pr_addRow_98 : decode b_Pr_addRow 98 = .ok (.getfield 9, 3) := by decide +kernel
theorem d_Pr_addRow_101 : decode b_Pr_addRow 101 = .ok (.iload 8, 2) := by decide +kernel
theorem d_Pr_addRow_103 : decode b_Pr_addRow 103 = .ok (.lload 9, 2) := by decide +kernel
theorem d_Pr_addRow_105 : decode b_Pr_addRow 105 = .ok (.ldc2_w 97, 3) := by decide +kernel
theorem d_Pr_addRow_108 : decode b_Pr_addRow 108 = .ok (.land, 1) := by decide +kernel
theorem d_Pr_addRow_109 : decode b_Pr_addRow 109 = .ok (.lastore, 1) := by decide +kernel
theorem d_Pr_addRow_110 : decode b_Pr_addRow 110 = .ok (.lload 9, 2) := by decide +kernel
theorem d_Pr_addRow_112 : decode b_Pr_addRow 112 = .ok (.bipush 32, 2) := by decide +kernel
theorem d_Pr_addRow_114 : decode b_Pr_addRow 114 = .ok (.lushr, 1) := by decide +kernel
theorem d_Pr_addRow_115 : decode b_Pr_addRow 115 = .ok (.lstore 6, 2) := by decide +kernel
theorem d_Pr_addRow_117 : decode b_Pr_addRow 117 = .ok (.iinc 8 1, 3) := by decide +kernel
theorem d_Pr_addRow_120 : decode b_Pr_addRow 120 = .ok (.goto (-49), 3) := by decide +kernel
theorem d_Pr_addRow_123 : decode b_Pr_addRow 123 = .ok (.return_, 1) := by decide +kernel
section
variable {p : Program} {l : Launch} {e : Env} {R : Room} {s : State} {m : MethodId} {args : Array Value} {below : List Frame} {meth : Method} {c : Code} {cells slots : Nat} {Q : State → Prop}
set_option maxHeartbeats 4000000 in
set_option maxRecDepth 100000 in
theorem lq_Pr_addRow (hx : p.tables.exec = Jvm.exec) (hb : c.code = b_Pr_addRow) (hts : ∀ w ∈ w_Pr_addRow, w.before args s = true) (hown : s.vm.findClass R_Pr = some m.cls) {E : kr_E} {h pa ga gw : Nat} {H : Heap} {V0 : Nat} (hT : ArrOfT s (kr_c E) .long) (hK : va_K (kr_D E) kr_cl (kr_t E) s) (hO : ∀ V : Nat, va_P (kr_D E) kr_cl [(h, .inr (1, [.ref pa, .ref ga, .int (nI gw), .ref (h + 6), .ref (h + 1), .ref (h + 2), .ref (h + 3), .ref (h + 4), .ref (h + 5)]))] (kq_set H (h + 1) (kq_L (kr_c E) 16 V))) (hw : H[h + 1]? = some (kq_L (kr_c E) 16 V0)) {T : Nat} (hTl : T < kw_M 16)
    (kk : ∀ (ls : Array Slot) (locs : List Loc), (∀ q ∈ locs, q.base = h + 1) → W p l e R s m args below meth c (kq_set H (h + 1) (kq_L (kr_c E) 16 T)) locs cells slots Q (F0 m 123 ls [])) :
    ∀ (n k V cy : Nat) (ls : Array Slot) (locs : List Loc), k + n = 16 → V < kw_M 16 → cy < 4294967296 → V + cy * kw_M k = T → (∀ q ∈ locs, q.base = h + 1) → lv_has ls 11 [(8, .int (nI k)), (6, .long (lN cy)), (0, .ref h)] → W p l e R s m args below meth c (kq_set H (h + 1) (kq_L (kr_c E) 16 V)) locs cells slots Q (F0 m 71 ls []) := by
  intro n
  induction n with
  | zero =>
    intro k V cy ls locs hn hV hcy hI hlc hl
    obtain rfl : k = 16 := by omega
    refine lv_iload hx hb d_Pr_addRow_71 (lv_at hl 0 rfl) ?_
    refine lv_bipush (v := nI 16) hx hb d_Pr_addRow_73 (by decide) ?_
    refine lv_icmp_ge hx hb d_Pr_addRow_75 rfl (fun hc => ?_) (fun hc => ?_)
    · have h0 : cy = 0 := by
        apply Classical.byContradiction
        intro q
        have h1 : 1 * kw_M 16 ≤ cy * kw_M 16 := Nat.mul_le_mul (by omega) (Nat.le_refl _)
        omega
      have e : V = T := by
        rw [h0] at hI
        omega
      rw [e]
      exact kk ls locs hlc
    · exact absurd (nI_le (Nat.le_refl 16) (by decide)) hc
  | succ n ih =>
    intro k V cy ls locs hn hV hcy hI hlc hl
    have hk : k < 16 := by omega
    have lV := kw_d_lt V k
    have hO1 := hO V
    have hrow := kq_set_at (x := kq_L (kr_c E) 16 V) hw
    have hsw : kq_r s .long (kq_set H (h + 1) (kq_L (kr_c E) 16 V)) (h + 1) 16 (fun j => .long (lN (kw_d V j))) := kq_r.ofV hT hrow
    have hs64 : kw_d V k + cy < 18446744073709551616 := by omega
    refine lv_iload hx hb d_Pr_addRow_71 (lv_at hl 0 rfl) ?_
    refine lv_bipush (v := nI 16) hx hb d_Pr_addRow_73 (by decide) ?_
    refine lv_icmp_ge hx hb d_Pr_addRow_75 rfl (fun hc => ?_) (fun hc => ?_)
    · exact absurd hc (nI_ge hk (by decide))
    · refine lv_lload hx hb d_Pr_addRow_78 (lv_at hl 1 rfl) ?_
      refine lv_lconst (v := lN 0) hx hb d_Pr_addRow_80 (by decide) ?_
      refine W.lcmp hx hb d_Pr_addRow_81 ?_
      refine lv_if_eq hx hb d_Pr_addRow_82 rfl (fun hc0 => ?_) (fun hc0 => ?_)
      · have h0 : cy = 0 := (kq_cmp_eq (by omega) (by decide)).mp hc0
        have e : V = T := by
          rw [h0] at hI
          omega
        rw [e]
        exact kk ls locs hlc
      · refine lv_aload_n hx hb d_Pr_addRow_85 rfl (lv_at hl 2 rfl) ?_
        refine kq_get hx hb hts kt_F_Pr hown hK hO1 rfl 4 (by decide) kt_w65 rfl d_Pr_addRow_86 ?_
        refine lv_iload hx hb d_Pr_addRow_89 (lv_at hl 0 rfl) ?_
        refine kq_lald hx hb (hsw) (hk) (by decide) (rfl) d_Pr_addRow_91 ?_
        refine lv_lload hx hb d_Pr_addRow_92 (lv_at hl 1 rfl) ?_
        refine lv_ladd hx hb d_Pr_addRow_94 ?_
        refine kq_rl (show (lN (kw_d V k)) + (lN cy) = lN (kw_d V k + cy) from lN_add _ _) ?_
        refine lv_lstore hx hb d_Pr_addRow_95 hl (by decide) rfl (fun ls hl => ?_)
        have hl : lv_has ls 11 [(9, .long (lN (kw_d V k + cy))), (8, .int (nI k)), (6, .long (lN cy)), (0, .ref h)] := hl
        refine lv_aload_n hx hb d_Pr_addRow_97 rfl (lv_at hl 3 rfl) ?_
        refine kq_get hx hb hts kt_F_Pr hown hK hO1 rfl 4 (by decide) kt_w65 rfl d_Pr_addRow_98 ?_
        refine lv_iload hx hb d_Pr_addRow_101 (lv_at hl 1 rfl) ?_
        refine lv_lload hx hb d_Pr_addRow_103 (lv_at hl 0 rfl) ?_
        refine lv_ldc2 hx hb hown (v := lN 4294967295) (hts _ (List.mem_cons_of_mem _ kt_w211)) d_Pr_addRow_105 ?_
        refine lv_land hx hb d_Pr_addRow_108 ?_
        refine kq_rl (show (lN (kw_d V k + cy)) &&& (lN 4294967295) = lN ((kw_d V k + cy) % 4294967296) from kq_mask _) ?_
        refine kq_last hx hb (hT) (hrow) (hk) (by decide) (Nat.mod_lt _ (by decide)) d_Pr_addRow_109 ?_
        refine kq_rH (kq_set_set _ _ _ _) ?_
        refine lv_lload hx hb d_Pr_addRow_110 (lv_at hl 0 rfl) ?_
        refine lv_bipush (v := nI 32) hx hb d_Pr_addRow_112 (by decide) ?_
        refine lv_lushr (v := lN ((kw_d V k + cy) / 4294967296)) hx hb d_Pr_addRow_114 (kq_ushr32 hs64) ?_
        refine lv_lstore hx hb d_Pr_addRow_115 hl (by decide) rfl (fun ls hl => ?_)
        have hl : lv_has ls 11 [(6, .long (lN ((kw_d V k + cy) / 4294967296))), (9, .long (lN (kw_d V k + cy))), (8, .int (nI k)), (0, .ref h)] := hl
        refine lv_iinc (k := 2) (v := nI (k + 1)) hx hb d_Pr_addRow_117 hl rfl (kq_inc k) (by decide) rfl (fun ls hl => ?_)
        have hl : lv_has ls 11 [(8, .int (nI (k + 1))), (6, .long (lN ((kw_d V k + cy) / 4294967296))), (9, .long (lN (kw_d V k + cy))), (0, .ref h)] := hl
        refine lv_goto hx hb d_Pr_addRow_120 rfl ?_
        refine ih (k + 1) (kw_s V k ((kw_d V k + cy) % 4294967296)) ((kw_d V k + cy) / 4294967296) ls _ (by omega) (kw_s_lt hV hk (Nat.mod_lt _ (by decide))) (by omega) ?_ (t_lc (free := fun q => q = h + 1) hlc rfl) (lv_sub hl [0, 1, 3] rfl)
        rw [kw_M_s]
        exact kp_row_step2 (kw_s_eq V k _) rfl (Nat.div_add_mod _ _).symm hI
set_option maxHeartbeats 4000000 in
set_option maxRecDepth 100000 in
theorem lp_Pr_addRow (hx : p.tables.exec = Jvm.exec) (hb : c.code = b_Pr_addRow) (hts : ∀ w ∈ w_Pr_addRow, w.before args s = true) (hown : s.vm.findClass R_Pr = some m.cls) {E : kr_E} {h pa ga gw : Nat} {H : Heap} {V0 : Nat} (hT : ArrOfT s (kr_c E) .long) (hK : va_K (kr_D E) kr_cl (kr_t E) s) (hO : ∀ V : Nat, va_P (kr_D E) kr_cl [(h, .inr (1, [.ref pa, .ref ga, .int (nI gw), .ref (h + 6), .ref (h + 1), .ref (h + 2), .ref (h + 3), .ref (h + 4), .ref (h + 5)]))] (kq_set H (h + 1) (kq_L (kr_c E) 16 V))) (hw : H[h + 1]? = some (kq_L (kr_c E) 16 V0)) {row f Rv at1 wn : Nat} (hsr : ∀ V : Nat, kq_sL s (kq_set H (h + 1) (kq_L (kr_c E) 16 V)) row 8 Rv) (hf : f < 4294967296) (hwn : wn ≤ 8) (hat : at1 + wn ≤ 16)
    (kk : ∀ (V cy : Nat) (ls : Array Slot) (locs : List Loc), V < kw_M 16 → cy < 4294967296 → V + cy * kw_M (at1 + wn) = V0 + f * (Rv % kw_M wn) * kw_M at1 → (∀ q ∈ locs, q.base = h + 1) → lv_has ls 11 [(6, .long (lN cy)), (0, .ref h), (4, .int (nI wn)), (5, .int (nI at1))] → W p l e R s m args below meth c (kq_set H (h + 1) (kq_L (kr_c E) 16 V)) locs cells slots Q (F0 m 64 ls [])) :
    ∀ (n j V cy : Nat) (ls : Array Slot) (locs : List Loc), j + n = wn → V < kw_M 16 → cy < 4294967296 → V + cy * kw_M (at1 + j) = V0 + f * (Rv % kw_M j) * kw_M at1 → (∀ q ∈ locs, q.base = h + 1) → lv_has ls 11 [(8, .int (nI j)), (6, .long (lN cy)), (0, .ref h), (1, .long (lN f)), (3, .ref row), (4, .int (nI wn)), (5, .int (nI at1))] → W p l e R s m args below meth c (kq_set H (h + 1) (kq_L (kr_c E) 16 V)) locs cells slots Q (F0 m 6 ls []) := by
  intro n
  induction n with
  | zero =>
    intro j V cy ls locs hn hV hcy hI hlc hl
    obtain rfl : j = wn := by omega
    refine lv_iload hx hb d_Pr_addRow_6 (lv_at hl 0 rfl) ?_
    refine lv_iload hx hb d_Pr_addRow_8 (lv_at hl 5 rfl) ?_
    refine lv_icmp_ge hx hb d_Pr_addRow_10 rfl (fun hc => ?_) (fun hc => ?_)
    · exact kk V cy ls locs hV hcy hI hlc (lv_sub hl [1, 2, 5, 6] rfl)
    · exact absurd (nI_le (Nat.le_refl j) (by omega)) hc
  | succ n ih =>
    intro j V cy ls locs hn hV hcy hI hlc hl
    have hj : j < wn := by omega
    have hk : at1 + j < 16 := by omega
    have lV := kw_d_lt V (at1 + j)
    have lR := kw_d_lt Rv j
    have hO1 := hO V
    have hrow := kq_set_at (x := kq_L (kr_c E) 16 V) hw
    have hsw : kq_r s .long (kq_set H (h + 1) (kq_L (kr_c E) 16 V)) (h + 1) 16 (fun j => .long (lN (kw_d V j))) := kq_r.ofV hT hrow
    have hs64 : f * kw_d Rv j + kw_d V (at1 + j) + cy < 18446744073709551616 := kp_s64 hf lR lV hcy
    refine lv_iload hx hb d_Pr_addRow_6 (lv_at hl 0 rfl) ?_
    refine lv_iload hx hb d_Pr_addRow_8 (lv_at hl 5 rfl) ?_
    refine lv_icmp_ge hx hb d_Pr_addRow_10 rfl (fun hc => ?_) (fun hc => ?_)
    · exact absurd hc (nI_ge hj (by omega))
    · refine lv_lload_n hx hb d_Pr_addRow_13 rfl (lv_at hl 3 rfl) ?_
      refine lv_aload_n hx hb d_Pr_addRow_14 rfl (lv_at hl 4 rfl) ?_
      refine lv_iload hx hb d_Pr_addRow_15 (lv_at hl 0 rfl) ?_
      refine kq_lald hx hb (hsr V) ((by omega)) (by decide) (rfl) d_Pr_addRow_17 ?_
      refine lv_lmul hx hb d_Pr_addRow_18 ?_
      refine kq_rl (show (lN f) * (lN (kw_d Rv j)) = lN (f * kw_d Rv j) from lN_mul _ _) ?_
      refine lv_aload_n hx hb d_Pr_addRow_19 rfl (lv_at hl 2 rfl) ?_
      refine kq_get hx hb hts kt_F_Pr hown hK hO1 rfl 4 (by decide) kt_w65 rfl d_Pr_addRow_20 ?_
      refine lv_iload hx hb d_Pr_addRow_23 (lv_at hl 6 rfl) ?_
      refine lv_iload hx hb d_Pr_addRow_25 (lv_at hl 0 rfl) ?_
      refine lv_iadd hx hb d_Pr_addRow_27 ?_
      refine kq_ri (show (nI at1) + (nI j) = nI (at1 + j) from nI_add _ _) ?_
      refine kq_lald hx hb (hsw) (hk) (by decide) (rfl) d_Pr_addRow_28 ?_
      refine lv_ladd hx hb d_Pr_addRow_29 ?_
      refine kq_rl (show (lN (f * kw_d Rv j)) + (lN (kw_d V (at1 + j))) = lN (f * kw_d Rv j + kw_d V (at1 + j)) from lN_add _ _) ?_
      refine lv_lload hx hb d_Pr_addRow_30 (lv_at hl 1 rfl) ?_
      refine lv_ladd hx hb d_Pr_addRow_32 ?_
      refine kq_rl (show (lN (f * kw_d Rv j + kw_d V (at1 + j))) + (lN cy) = lN (f * kw_d Rv j + kw_d V (at1 + j) + cy) from lN_add _ _) ?_
      refine lv_lstore hx hb d_Pr_addRow_33 hl (by decide) rfl (fun ls hl => ?_)
      have hl : lv_has ls 11 [(9, .long (lN (f * kw_d Rv j + kw_d V (at1 + j) + cy))), (8, .int (nI j)), (6, .long (lN cy)), (0, .ref h), (1, .long (lN f)), (3, .ref row), (4, .int (nI wn)), (5, .int (nI at1))] := hl
      refine lv_aload_n hx hb d_Pr_addRow_35 rfl (lv_at hl 3 rfl) ?_
      refine kq_get hx hb hts kt_F_Pr hown hK hO1 rfl 4 (by decide) kt_w65 rfl d_Pr_addRow_36 ?_
      refine lv_iload hx hb d_Pr_addRow_39 (lv_at hl 7 rfl) ?_
      refine lv_iload hx hb d_Pr_addRow_41 (lv_at hl 1 rfl) ?_
      refine lv_iadd hx hb d_Pr_addRow_43 ?_
      refine kq_ri (show (nI at1) + (nI j) = nI (at1 + j) from nI_add _ _) ?_
      refine lv_lload hx hb d_Pr_addRow_44 (lv_at hl 0 rfl) ?_
      refine lv_ldc2 hx hb hown (v := lN 4294967295) (hts _ (List.mem_cons_of_mem _ kt_w211)) d_Pr_addRow_46 ?_
      refine lv_land hx hb d_Pr_addRow_49 ?_
      refine kq_rl (show (lN (f * kw_d Rv j + kw_d V (at1 + j) + cy)) &&& (lN 4294967295) = lN ((f * kw_d Rv j + kw_d V (at1 + j) + cy) % 4294967296) from kq_mask _) ?_
      refine kq_last hx hb (hT) (hrow) (hk) (by decide) (Nat.mod_lt _ (by decide)) d_Pr_addRow_50 ?_
      refine kq_rH (kq_set_set _ _ _ _) ?_
      refine lv_lload hx hb d_Pr_addRow_51 (lv_at hl 0 rfl) ?_
      refine lv_bipush (v := nI 32) hx hb d_Pr_addRow_53 (by decide) ?_
      refine lv_lushr (v := lN ((f * kw_d Rv j + kw_d V (at1 + j) + cy) / 4294967296)) hx hb d_Pr_addRow_55 (kq_ushr32 hs64) ?_
      refine lv_lstore hx hb d_Pr_addRow_56 hl (by decide) rfl (fun ls hl => ?_)
      have hl : lv_has ls 11 [(6, .long (lN ((f * kw_d Rv j + kw_d V (at1 + j) + cy) / 4294967296))), (9, .long (lN (f * kw_d Rv j + kw_d V (at1 + j) + cy))), (8, .int (nI j)), (0, .ref h), (1, .long (lN f)), (3, .ref row), (4, .int (nI wn)), (5, .int (nI at1))] := hl
      refine lv_iinc (k := 2) (v := nI (j + 1)) hx hb d_Pr_addRow_58 hl rfl (kq_inc j) (by decide) rfl (fun ls hl => ?_)
      have hl : lv_has ls 11 [(8, .int (nI (j + 1))), (6, .long (lN ((f * kw_d Rv j + kw_d V (at1 + j) + cy) / 4294967296))), (9, .long (lN (f * kw_d Rv j + kw_d V (at1 + j) + cy))), (0, .ref h), (1, .long (lN f)), (3, .ref row), (4, .int (nI wn)), (5, .int (nI at1))] := hl
      refine lv_goto hx hb d_Pr_addRow_61 rfl ?_
      refine ih (j + 1) (kw_s V (at1 + j) ((f * kw_d Rv j + kw_d V (at1 + j) + cy) % 4294967296)) ((f * kw_d Rv j + kw_d V (at1 + j) + cy) / 4294967296) ls _ (by omega) (kw_s_lt hV hk (Nat.mod_lt _ (by decide))) (by omega) ?_ (t_lc (free := fun q => q = h + 1) hlc rfl) (lv_sub hl [0, 1, 3, 4, 5, 6, 7] rfl)
      rw [← Nat.add_assoc, kw_M_s, kw_d_lo]
      exact kp_row_step (kw_s_eq V (at1 + j) _) rfl (Nat.div_add_mod _ _).symm (kw_M_add at1 j) hI
end
set_option maxHeartbeats 4000000 in
set_option maxRecDepth 100000 in
theorem c_Pr_addRow (l : Launch) (E : kr_E) (h pa ga gw mm G : Nat) (v : Nat → Nat) (H : Heap) (hE : kr_ok E) (hP : kr_P E h pa ga gw mm G) (hW : kr_W E v H) (row f at1 wn : Nat) (hrow : kr_in E row) (hf : f < 4294967296) (hwn : wn ≤ 8) (hat : at1 + wn ≤ 16) (hTl : v (h + 1) + f * (v row % kw_M wn) * kw_M at1 < kw_M 16) : Met l y_Pr_addRow w_Pr_addRow ({ frames := 0, cells := 0, slots := 0, locals := 0 }) (kq_P [.ref h, .long (lN f), .ref row, .int (nI wn), .int (nI at1)] H (kr_B E)) (kq_Q (fun o H1 => o = none ∧ kr_W E (va_up v (h + 1) (v (h + 1) + f * (v row % kw_M wn) * kw_M at1)) H1)) 0 0 (fun q => q = h + 1) := by
  refine Met.ofW (cc := b_Pr_addRow) (maxL := 11) (ret := none) (by decide) rfl ?_
  intro p e s m args below meth c s₁ B0 hml hv
  obtain ⟨rfl, hH, hB⟩ := hv
  have hx := B0.exec
  have hb := B0.bytes
  have hret := B0.returns
  have hts := atoms_spec (ws := w_Pr_addRow) B0.pre
  have hown : s.vm.findClass R_Pr = some m.cls := findClass_of_methodNamed B0.named
  have hlocks := B0.notSynchronized
  rw [hH]
  have hl := lv_entry ([.ref h, .long (lN f), .ref row, .int (nI wn), .int (nI at1)]) (n := 11) (Nat.le_of_ble_eq_true rfl)
  rw [lg_entry_eq]
  generalize (lg_sl ([.ref h, .long (lN f), .ref row, .int (nI wn), .int (nI at1)]) ++ List.replicate (11 - (lg_sl ([.ref h, .long (lN f), .ref row, .int (nI wn), .int (nI at1)])).length) Slot.unset).toArray = ls at hl ⊢
  have hl : lv_has ls 11 [(0, .ref h), (1, .long (lN f)), (3, .ref row), (4, .int (nI wn)), (5, .int (nI at1))] := hl
  have hT := kr_T hE hB
  have hK := hB.1
  have hwd := hP.2.2.2.2.2.2.2.2.1
  have hw : H[h + 1]? = some (kq_L (kr_c E) 16 (v (h + 1))) := by
    have q := hW.2.1 (h + 1) hwd.1
    rw [hwd.2] at q
    exact q
  have hVl : v (h + 1) < kw_M 16 := by
    have q := hW.2.2.2.1 (h + 1) hwd.1
    rw [hwd.2] at q
    exact q
  have hO0 := kr_obj hW hP.1 hP.2.1
  have hne : h ≠ h + 1 := by omega
  have hO : ∀ V : Nat, va_P (kr_D E) kr_cl [(h, .inr (1, [.ref pa, .ref ga, .int (nI gw), .ref (h + 6), .ref (h + 1), .ref (h + 2), .ref (h + 3), .ref (h + 4), .ref (h + 5)]))] (kq_set H (h + 1) (kq_L (kr_c E) 16 V)) := fun V => hO0.kept (fun k q hk => by
    have h0 : k < 1 := (List.getElem?_eq_some_iff.mp hk).1
    rw [show k = 0 by omega] at hk
    cases hk
    exact kq_set_ne hne)
  have hsr : ∀ V : Nat, kq_sL s (kq_set H (h + 1) (kq_L (kr_c E) 16 V)) row 8 (v row) := fun V => (kr_src hE hW hB hrow).other (kq_set_ne (kr_in_ne hE hP hrow))
  refine lv_lconst (v := lN 0) hx hb d_Pr_addRow_0 (by decide) ?_
  refine lv_lstore hx hb d_Pr_addRow_1 hl (by decide) rfl (fun ls hl => ?_)
  have hl : lv_has ls 11 [(6, .long (lN 0)), (0, .ref h), (1, .long (lN f)), (3, .ref row), (4, .int (nI wn)), (5, .int (nI at1))] := hl
  refine lv_iconst (v := nI 0) hx hb d_Pr_addRow_3 (by decide) ?_
  refine lv_istore hx hb d_Pr_addRow_4 hl (by decide) rfl (fun ls hl => ?_)
  have hl : lv_has ls 11 [(8, .int (nI 0)), (6, .long (lN 0)), (0, .ref h), (1, .long (lN f)), (3, .ref row), (4, .int (nI wn)), (5, .int (nI at1))] := hl
  refine kq_rH (kq_set_self hw).symm ?_
  refine lp_Pr_addRow hx hb hts hown hT hK hO hw hsr hf hwn hat (fun V cy ls locs hV hcy hI hlc hl => ?_) wn 0 (v (h + 1)) 0 ls [] (by omega) hVl (by decide) (by rw [kw_M_0, Nat.mod_one, Nat.zero_mul, Nat.mul_zero, Nat.zero_mul]) (fun q h => by cases h) (lv_sub hl [0, 1, 2, 3, 4, 5, 6] rfl)
  refine lv_iload hx hb d_Pr_addRow_64 (lv_at hl 3 rfl) ?_
  refine lv_iload hx hb d_Pr_addRow_66 (lv_at hl 2 rfl) ?_
  refine lv_iadd hx hb d_Pr_addRow_68 ?_
  refine kq_ri (show (nI at1) + (nI wn) = nI (at1 + wn) from nI_add _ _) ?_
  refine lv_istore hx hb d_Pr_addRow_69 hl (by decide) rfl (fun ls hl => ?_)
  have hl : lv_has ls 11 [(8, .int (nI (at1 + wn))), (6, .long (lN cy)), (0, .ref h), (4, .int (nI wn)), (5, .int (nI at1))] := hl
  refine lq_Pr_addRow hx hb hts hown hT hK hO hw hTl (fun ls locs hlc => ?_) (16 - (at1 + wn)) (at1 + wn) V cy ls locs (by omega) hV hcy hI hlc (lv_sub hl [0, 1, 2] rfl)
  exact W.vret hx hb hret (fun t ht _ => ⟨_, rfl, rfl, by rw [ht]; exact kr_putn hE hW hwd.1 hwd.2 hTl⟩) hlc d_Pr_addRow_123
end
section
/-! KeyCurve$Prime: takeHigh, fold (own rows). -/
theorem kw_d_shift (V j : Nat) : kw_d (V / kw_M 8) j = kw_d V (8 + j) := by
  unfold kw_d
  rw [Nat.div_div_eq_div_mul, ← kw_M_add]
theorem kw_d_null (j : Nat) : kw_d 0 j = 0 := by
  unfold kw_d
  rw [Nat.zero_div]
theorem kw_div_lt {V : Nat} (h : V < kw_M 16) : V / kw_M 8 < kw_M 8 := Nat.div_lt_of_lt_mul (by rw [← kw_M_16]; exact h)
theorem kr_wide {E : kr_E} {h pa ga gw mm G : Nat} {v : Nat → Nat} {H : Heap} (hP : kr_P E h pa ga gw mm G) (hW : kr_W E v H) : H[h + 1]? = some (kq_L (kr_c E) 16 (v (h + 1))) ∧ v (h + 1) < kw_M 16 := by
  have hwd := hP.2.2.2.2.2.2.2.2.1
  have q := hW.2.1 (h + 1) hwd.1
  have q2 := hW.2.2.2.1 (h + 1) hwd.1
  rw [hwd.2] at q q2
  exact ⟨q, q2⟩
theorem d_Pr_takeHigh_0 : decode b_Pr_takeHigh 0 = .ok (.lconst 0, 1) := by decide +kernel
theorem d_Pr_takeHigh_1 : decode b_Pr_takeHigh 1 = .ok (.lstore_n 1, 1) := by decide +kernel
theorem d_Pr_takeHigh_2 : decode b_Pr_takeHigh 2 = .ok (.iconst 0, 1) := by decide +kernel
theorem d_Pr_takeHigh_3 : decode b_Pr_takeHigh 3 = .ok (.istore_n 3, 1) := by decide +kernel
theorem d_Pr_takeHigh_4 : decode b_Pr_takeHigh 4 = .ok (.iload_n 3, 1) := by decide +kernel
theorem d_Pr_takeHigh_5 : decode b_Pr_takeHigh 5 = .ok (.bipush 8, 2) := by decide +kernel
theorem d_Pr_takeHigh_7 : decode b_Pr_takeHigh 7 = .ok (.if_icmp .ge 43, 3) := by decide +kernel
theorem d_Pr_takeHigh_10 : decode b_Pr_takeHigh 10 = .ok (.aload_n 0, 1) := by decide +kernel
theorem d_Pr_takeHigh_11 : decode b_Pr_takeHigh 11 = .ok (.getfield 15, 3) := by decide +kernel
theorem d_Pr_takeHigh_14 : decode b_Pr_takeHigh 14 = .ok (.iload_n 3, 1) := by decide +kernel
theorem d_Pr_takeHigh_15 : decode b_Pr_takeHigh 15 = .ok (.aload_n 0, 1) := by decide +kernel
theorem d_Pr_takeHigh_16 : decode b_Pr_takeHigh 16 = .ok (.getfield 9, 3) := by decide +kernel
theorem d_Pr_takeHigh_19 : decode b_Pr_takeHigh 19 = .ok (.bipush 8, 2) := by decide +kernel
theorem d_Pr_takeHigh_21 : decode b_Pr_takeHigh 21 = .ok (.iload_n 3, 1) := by decide +kernel
theorem d_Pr_takeHigh_22 : decode b_Pr_takeHigh 22 = .ok (.iadd, 1) := by decide +kernel
theorem d_Pr_takeHigh_23 : decode b_Pr_takeHigh 23 = .ok (.laload, 1) := by decide +kernel
theorem d_Pr_takeHigh_24 : decode b_Pr_takeHigh 24 = .ok (.lastore, 1) := by decide +kernel
theorem d_Pr_takeHigh_25 : decode b_Pr_takeHigh 25 = .ok (.aload_n 0, 1) := by decide +kernel
theorem d_Pr_takeHigh_26 : decode b_Pr_takeHigh 26 = .ok (.getfield 9, 3) := by decide +kernel
theorem d_Pr_takeHigh_29 : decode b_Pr_takeHigh 29 = .ok (.bipush 8, 2) := by decide +kernel
theorem d_Pr_takeHigh_31 : decode b_Pr_takeHigh 31 = .ok (.iload_n 3, 1) := by decide +kernel
theorem d_Pr_takeHigh_32 : decode b_Pr_takeHigh 32 = .ok (.iadd, 1) := by decide +kernel
theorem d_Pr_takeHigh_33 : decode b_Pr_takeHigh 33 = .ok (.lconst 0, 1) := by decide +kernel
theorem d_Pr_takeHigh_34 : decode b_Pr_takeHigh 34 = .ok (.lastore, 1) := by decide +kernel
theorem d_Pr_takeHigh_35 : decode b_Pr_takeHigh 35 = .ok (.lload_n 1, 1) := by decide +kernel
theorem d_Pr_takeHigh_36 : decode b_Pr_takeHigh 36 = .ok (.aload_n 0, 1) := by decide +kernel
theorem d_Pr_takeHigh_37 : decode b_Pr_takeHigh 37 = .ok (.getfield 15, 3) := by decide +kernel
theorem d_Pr_takeHigh_40 : decode b_Pr_takeHigh 40 = .ok (.iload_n 3, 1) := by decide +kernel
theorem d_Pr_takeHigh_41 : decode b_Pr_takeHigh 41 = .ok (.laload, 1) := by decide +kernel
theorem d_Pr_takeHigh_42 : decode b_Pr_takeHigh 42 = .ok (.lor, 1) := by decide +kernel
theorem d_Pr_takeHigh_43 : decode b_Pr_takeHigh 43 = .ok (.lstore_n 1, 1) := by decide +kernel
theorem d_Pr_takeHigh_44 : decode b_Pr_takeHigh 44 = .ok (.iinc 3 1, 3) := by decide +kernel
theorem d_Pr_takeHigh_47 : decode b_Pr_takeHigh 47 = .ok (.goto (-43), 3) := by decide +kernel
theorem d_Pr_takeHigh_50 : decode b_Pr_takeHigh 50 = .ok (.lload_n 1, 1) := by decide +kernel
theorem d_Pr_takeHigh_51 : decode b_Pr_takeHigh 51 = .ok (.lconst 0, 1) := by decide +kernel
theorem d_Pr_takeHigh_52 : decode b_Pr_takeHigh 52 = .ok (.lcmp, 1) := by decide +kernel
theorem d_Pr_takeHigh_53 : decode b_Pr_takeHigh 53 = .ok (.ifCond .eq 7, 3) := by decide +kernel
theorem d_Pr_takeHigh_56 : decode b_Pr_takeHigh 56 = .ok (.iconst 1, 1) := by decide +kernel
theorem d_Pr_takeHigh_57 : decode b_Pr_takeHigh 57 = .ok (.goto 4, 3) := by decide +kernel
theorem d_Pr_takeHigh_60 : decode b_Pr_takeHigh 60 = .ok (.iconst 0, 1) := by decide +kernel
theorem d_Pr_takeHigh_61 : decode b_Pr_takeHigh 61 = .ok (.ireturn, 1) := by decide +kernel
section
variable {p : Program} {l : Launch} {e : Env} {R : Room} {s : State} {m : MethodId} {args : Array Value} {below : List Frame} {meth : Method} {c : Code} {cells slots : Nat} {Q : State → Prop}
set_option maxHeartbeats 4000000 in
set_option maxRecDepth 100000 in
theorem lp_Pr_takeHigh (hx : p.tables.exec = Jvm.exec) (hb : c.code = b_Pr_takeHigh) (hts : ∀ w ∈ w_Pr_takeHigh, w.before args s = true) (hown : s.vm.findClass R_Pr = some m.cls) {E : kr_E} {h pa ga gw mm G : Nat} (hE : kr_ok E) (hP : kr_P E h pa ga gw mm G) (hB : kr_B E s) {v : Nat → Nat} {V0 : Nat}
    (kk : ∀ (w : Nat → Nat) (H : Heap) (z : Nat) (ls : Array Slot) (locs : List Loc), kr_W E w H → (∀ j, j < 16 → kw_d (w (h + 1)) j = if 8 ≤ j then 0 else kw_d V0 j) → (∀ j, j < 8 → kw_d (w (h + 2)) j = kw_d V0 (8 + j)) → z < 4294967296 → (z = 0 ↔ ∀ j, j < 8 → kw_d V0 (8 + j) = 0) → (∀ q, q ≠ h + 1 → q ≠ h + 2 → w q = v q) → (∀ q ∈ locs, q.base = h + 1 ∨ q.base = h + 2) → lv_has ls 4 [(1, .long (lN z))] → W p l e R s m args below meth c H locs cells slots Q (F0 m 50 ls [])) :
    ∀ (n i : Nat) (w : Nat → Nat) (H : Heap) (z : Nat) (ls : Array Slot) (locs : List Loc), i + n = 8 → kr_W E w H → (∀ j, j < 16 → kw_d (w (h + 1)) j = if 8 ≤ j ∧ j < 8 + i then 0 else kw_d V0 j) → (∀ j, j < i → kw_d (w (h + 2)) j = kw_d V0 (8 + j)) → z < 4294967296 → (z = 0 ↔ ∀ j, j < i → kw_d V0 (8 + j) = 0) → (∀ q, q ≠ h + 1 → q ≠ h + 2 → w q = v q) → (∀ q ∈ locs, q.base = h + 1 ∨ q.base = h + 2) → lv_has ls 4 [(3, .int (nI i)), (1, .long (lN z)), (0, .ref h)] → W p l e R s m args below meth c H locs cells slots Q (F0 m 4 ls []) := by
  intro n
  induction n with
  | zero =>
    intro i w H z ls locs hn hW h1 h2 hz hz0 ho hlc hl
    obtain rfl : i = 8 := by omega
    refine lv_iload_n hx hb d_Pr_takeHigh_4 rfl (lv_at hl 0 rfl) ?_
    refine lv_bipush (v := nI 8) hx hb d_Pr_takeHigh_5 (by decide) ?_
    refine lv_icmp_ge hx hb d_Pr_takeHigh_7 rfl (fun hc => ?_) (fun hc => ?_)
    · refine kk w H z ls locs hW (fun j hj => ?_) h2 hz hz0 ho hlc (lv_sub hl [1] rfl)
      rw [h1 j hj]
      by_cases e : 8 ≤ j
      · rw [if_pos ⟨e, hj⟩, if_pos e]
      · rw [if_neg (fun q => e q.1), if_neg e]
    · exact absurd (nI_le (Nat.le_refl 8) (by decide)) hc
  | succ n ih =>
    intro i w H z ls locs hn hW h1 h2 hz hz0 ho hlc hl
    have hi : i < 8 := by omega
    have hK := hB.1
    have hT := kr_T hE hB
    have hhi := hP.2.2.2.2.2.2.2.2.2.1
    have hwd := hP.2.2.2.2.2.2.2.2.1
    have hO := kr_obj hW hP.1 hP.2.1
    have lX := kw_d_lt (w (h + 1)) (8 + i)
    have hX : kw_d (w (h + 1)) (8 + i) = kw_d V0 (8 + i) := by
      rw [h1 (8 + i) (by omega), if_neg (by omega)]
    obtain ⟨hw1, hw2⟩ := kr_wide hP hW
    have hsw : kq_r s .long H (h + 1) 16 (fun j => .long (lN (kw_d (w (h + 1)) j))) := kq_r.ofV hT hw1
    have hrh := kr_row hW hhi
    have hlh := kr_lt hE hW (Or.inl hhi)
    have hW1 := kr_put hE hW hhi (kw_s_lt hlh hi lX)
    have hO1 := kr_obj hW1 hP.1 hP.2.1
    obtain ⟨hw3, hw4⟩ := kr_wide hP hW1
    rw [kq_up_ne (show h + 1 ≠ h + 2 by omega)] at hw3 hw4
    have hW2 := kr_putn hE hW1 hwd.1 hwd.2 (kw_s_lt hw4 (show 8 + i < 16 by omega) (show 0 < 4294967296 by decide))
    have hO2 := kr_obj hW2 hP.1 hP.2.1
    have hrh2 := kr_src hE hW2 hB (Or.inl hhi)
    rw [kq_up_ne (show h + 2 ≠ h + 1 by omega), kq_up_at] at hrh2
    refine lv_iload_n hx hb d_Pr_takeHigh_4 rfl (lv_at hl 0 rfl) ?_
    refine lv_bipush (v := nI 8) hx hb d_Pr_takeHigh_5 (by decide) ?_
    refine lv_icmp_ge hx hb d_Pr_takeHigh_7 rfl (fun hc => ?_) (fun hc => ?_)
    · exact absurd hc (nI_ge hi (by decide))
    · refine lv_aload_n hx hb d_Pr_takeHigh_10 rfl (lv_at hl 2 rfl) ?_
      refine kq_get hx hb hts kt_F_Pr hown hK hO rfl 5 (by decide) kt_w66 rfl d_Pr_takeHigh_11 ?_
      refine lv_iload_n hx hb d_Pr_takeHigh_14 rfl (lv_at hl 0 rfl) ?_
      refine lv_aload_n hx hb d_Pr_takeHigh_15 rfl (lv_at hl 2 rfl) ?_
      refine kq_get hx hb hts kt_F_Pr hown hK hO rfl 4 (by decide) kt_w65 rfl d_Pr_takeHigh_16 ?_
      refine lv_bipush (v := nI 8) hx hb d_Pr_takeHigh_19 (by decide) ?_
      refine lv_iload_n hx hb d_Pr_takeHigh_21 rfl (lv_at hl 0 rfl) ?_
      refine lv_iadd hx hb d_Pr_takeHigh_22 ?_
      refine kq_ri (show (nI 8) + (nI i) = nI (8 + i) from nI_add _ _) ?_
      refine kq_lald hx hb (hsw) ((by omega)) (by decide) (rfl) d_Pr_takeHigh_23 ?_
      refine kq_last hx hb (hT) (hrh) (hi) (by decide) (lX) d_Pr_takeHigh_24 ?_
      refine lv_aload_n hx hb d_Pr_takeHigh_25 rfl (lv_at hl 2 rfl) ?_
      refine kq_get hx hb hts kt_F_Pr hown hK hO1 rfl 4 (by decide) kt_w65 rfl d_Pr_takeHigh_26 ?_
      refine lv_bipush (v := nI 8) hx hb d_Pr_takeHigh_29 (by decide) ?_
      refine lv_iload_n hx hb d_Pr_takeHigh_31 rfl (lv_at hl 0 rfl) ?_
      refine lv_iadd hx hb d_Pr_takeHigh_32 ?_
      refine kq_ri (show (nI 8) + (nI i) = nI (8 + i) from nI_add _ _) ?_
      refine lv_lconst (v := lN 0) hx hb d_Pr_takeHigh_33 (by decide) ?_
      refine kq_last hx hb (hT) (hw3) ((by omega)) (by decide) ((by decide)) d_Pr_takeHigh_34 ?_
      refine lv_lload_n hx hb d_Pr_takeHigh_35 rfl (lv_at hl 1 rfl) ?_
      refine lv_aload_n hx hb d_Pr_takeHigh_36 rfl (lv_at hl 2 rfl) ?_
      refine kq_get hx hb hts kt_F_Pr hown hK hO2 rfl 5 (by decide) kt_w66 rfl d_Pr_takeHigh_37 ?_
      refine lv_iload_n hx hb d_Pr_takeHigh_40 rfl (lv_at hl 0 rfl) ?_
      refine kq_lald hx hb (hrh2) (hi) (by decide) (rfl) d_Pr_takeHigh_41 ?_
      refine lv_lor hx hb d_Pr_takeHigh_42 ?_
      refine kq_rl (show (lN z) ||| (lN (kw_d (kw_s (w (h + 2)) i (kw_d (w (h + 1)) (8 + i))) i)) = lN (z ||| kw_d V0 (8 + i)) from (by rw [kw_d_ws_same _ _ lX, hX]; exact wb_or (by omega) (by have := kw_d_lt V0 (8 + i); omega))) ?_
      refine lv_lstore_n hx hb d_Pr_takeHigh_43 rfl hl (by decide) rfl (fun ls hl => ?_)
      have hl : lv_has ls 4 [(1, .long (lN (z ||| kw_d V0 (8 + i)))), (3, .int (nI i)), (0, .ref h)] := hl
      refine lv_iinc (k := 1) (v := nI (i + 1)) hx hb d_Pr_takeHigh_44 hl rfl (kq_inc i) (by decide) rfl (fun ls hl => ?_)
      have hl : lv_has ls 4 [(3, .int (nI (i + 1))), (1, .long (lN (z ||| kw_d V0 (8 + i)))), (0, .ref h)] := hl
      refine lv_goto hx hb d_Pr_takeHigh_47 rfl ?_
      refine ih (i + 1) _ _ (z ||| kw_d V0 (8 + i)) ls _ (by omega) hW2 (fun j hj => ?_) (fun j hj => ?_) (Nat.or_lt_two_pow (n := 32) hz (kw_d_lt _ _)) ?_ (fun q q1 q2 => ?_) (t_lc (free := fun q => q = h + 1 ∨ q = h + 2) (t_lc (free := fun q => q = h + 1 ∨ q = h + 2) hlc (Or.inr rfl)) (Or.inl rfl)) (lv_sub hl [0, 1, 2] rfl)
      · rw [kq_up_at]
        by_cases e : j = 8 + i
        · subst e
          rw [kw_d_ws_same _ _ (by decide), if_pos (by omega)]
        · rw [kw_d_ws_ne _ (by decide) e, h1 j hj]
          by_cases e2 : 8 ≤ j ∧ j < 8 + i
          · rw [if_pos e2, if_pos (by omega)]
          · rw [if_neg e2, if_neg (by omega)]
      · rw [kq_up_ne (show h + 2 ≠ h + 1 by omega), kq_up_at]
        by_cases e : j = i
        · subst e
          rw [kw_d_ws_same _ _ lX, hX]
        · rw [kw_d_ws_ne _ lX e]
          exact h2 j (by omega)
      · rw [Nat.or_eq_zero_iff, hz0]
        constructor
        · intro q j hj
          by_cases e : j = i
          · subst e
            exact q.2
          · exact q.1 j (by omega)
        · intro q
          exact ⟨fun j hj => q j (by omega), q i (by omega)⟩
      · rw [kq_up_ne q1, kq_up_ne q2]
        exact ho q q1 q2
end
set_option maxHeartbeats 4000000 in
set_option maxRecDepth 100000 in
theorem c_Pr_takeHigh (l : Launch) (E : kr_E) (h pa ga gw mm G : Nat) (v : Nat → Nat) (H : Heap) (hE : kr_ok E) (hP : kr_P E h pa ga gw mm G) (hW : kr_W E v H) : Met l y_Pr_takeHigh w_Pr_takeHigh ({ frames := 0, cells := 0, slots := 0, locals := 0 }) (kq_P [.ref h] H (kr_B E)) (kq_Q (fun o H1 => o = some (.int (kq_z (decide (¬ v (h + 1) / kw_M 8 = 0)))) ∧ ∃ w : Nat → Nat, kr_W E w H1 ∧ w (h + 1) = v (h + 1) % kw_M 8 ∧ w (h + 2) = v (h + 1) / kw_M 8 ∧ ∀ q, q ≠ h + 1 → q ≠ h + 2 → w q = v q)) 0 0 (fun q => q = h + 1 ∨ q = h + 2) := by
  refine Met.ofW (cc := b_Pr_takeHigh) (maxL := 4) (ret := (some .boolean)) (by decide) rfl ?_
  intro p e s m args below meth c s₁ B0 hml hv
  obtain ⟨rfl, hH, hB⟩ := hv
  have hx := B0.exec
  have hb := B0.bytes
  have hret := B0.returns
  have hts := atoms_spec (ws := w_Pr_takeHigh) B0.pre
  have hown : s.vm.findClass R_Pr = some m.cls := findClass_of_methodNamed B0.named
  have hlocks := B0.notSynchronized
  rw [hH]
  have hl := lv_entry ([.ref h]) (n := 4) (Nat.le_of_ble_eq_true rfl)
  rw [lg_entry_eq]
  generalize (lg_sl ([.ref h]) ++ List.replicate (4 - (lg_sl ([.ref h])).length) Slot.unset).toArray = ls at hl ⊢
  have hl : lv_has ls 4 [(0, .ref h)] := hl
  obtain ⟨-, hVl⟩ := kr_wide hP hW
  refine lv_lconst (v := lN 0) hx hb d_Pr_takeHigh_0 (by decide) ?_
  refine lv_lstore_n hx hb d_Pr_takeHigh_1 rfl hl (by decide) rfl (fun ls hl => ?_)
  have hl : lv_has ls 4 [(1, .long (lN 0)), (0, .ref h)] := hl
  refine lv_iconst (v := nI 0) hx hb d_Pr_takeHigh_2 (by decide) ?_
  refine lv_istore_n hx hb d_Pr_takeHigh_3 rfl hl (by decide) rfl (fun ls hl => ?_)
  have hl : lv_has ls 4 [(3, .int (nI 0)), (1, .long (lN 0)), (0, .ref h)] := hl
  refine lp_Pr_takeHigh hx hb hts hown hE hP hB (v := v) (V0 := v (h + 1)) (fun w H1 z ls locs hW1 h1 h2 hz hz0 ho hlc hl => ?_) 8 0 v H 0 ls [] rfl hW (fun j hj => by rw [if_neg (by omega)]) (fun j hj => by omega) (by decide) ⟨fun _ j hj => by omega, fun _ => rfl⟩ (fun _ _ _ => rfl) (fun q h => by cases h) (lv_sub hl [0, 1, 2] rfl)
  have e1 : w (h + 1) = v (h + 1) % kw_M 8 := by
    refine kw_d_eq (n := 16) (kr_wide hP hW1).2 (Nat.lt_of_lt_of_le (Nat.mod_lt _ (kw_M_pos 8)) (by decide +kernel)) (fun j hj => ?_)
    rw [h1 j hj]
    by_cases e : 8 ≤ j
    · rw [if_pos e, kw_d_big (Nat.mod_lt _ (kw_M_pos 8)) e]
    · rw [if_neg e, kw_d_mod (by omega)]
  have e2 : w (h + 2) = v (h + 1) / kw_M 8 := by
    refine kw_d_eq (n := 8) (kr_lt hE hW1 (Or.inl hP.2.2.2.2.2.2.2.2.2.1)) (kw_div_lt hVl) (fun j hj => ?_)
    rw [h2 j hj, kw_d_shift]
  have e3 : z = 0 ↔ v (h + 1) / kw_M 8 = 0 := by
    rw [hz0]
    constructor
    · intro q
      exact kw_d_eq (n := 8) (kw_div_lt hVl) (kw_M_pos 8) (fun j hj => by rw [kw_d_shift, q j hj, kw_d_null])
    · intro q j hj
      rw [← kw_d_shift, q, kw_d_null]
  refine lv_lload_n hx hb d_Pr_takeHigh_50 rfl (lv_at hl 0 rfl) ?_
  refine lv_lconst (v := lN 0) hx hb d_Pr_takeHigh_51 (by decide) ?_
  refine W.lcmp hx hb d_Pr_takeHigh_52 ?_
  refine lv_if_eq hx hb d_Pr_takeHigh_53 rfl (fun hc => ?_) (fun hc => ?_)
  · have hn : ¬ ¬ v (h + 1) / kw_M 8 = 0 := fun q => q (e3.mp ((kq_cmp_eq (by omega) (by decide)).mp hc))
    refine lv_iconst (v := nI 0) hx hb d_Pr_takeHigh_60 (by decide) ?_
    exact W.zret hx hb hret rfl (fun t ht _ => ⟨_, rfl, by rw [kq_z_f hn], w, by rw [ht]; exact hW1, e1, e2, ho⟩) hlc d_Pr_takeHigh_61
  · have hp : ¬ v (h + 1) / kw_M 8 = 0 := fun q => hc ((kq_cmp_eq (by omega) (by decide)).mpr (e3.mpr q))
    refine lv_iconst (v := nI 1) hx hb d_Pr_takeHigh_56 (by decide) ?_
    refine lv_goto hx hb d_Pr_takeHigh_57 rfl ?_
    exact W.zret hx hb hret rfl (fun t ht _ => ⟨_, rfl, by rw [kq_z_t hp], w, by rw [ht]; exact hW1, e1, e2, ho⟩) hlc d_Pr_takeHigh_61
theorem d_Pr_fold_0 : decode b_Pr_fold 0 = .ok (.iconst 0, 1) := by decide +kernel
theorem d_Pr_fold_1 : decode b_Pr_fold 1 = .ok (.istore_n 1, 1) := by decide +kernel
theorem d_Pr_fold_2 : decode b_Pr_fold 2 = .ok (.iload_n 1, 1) := by decide +kernel
theorem d_Pr_fold_3 : decode b_Pr_fold 3 = .ok (.bipush 8, 2) := by decide +kernel
theorem d_Pr_fold_5 : decode b_Pr_fold 5 = .ok (.if_icmp .ge 39, 3) := by decide +kernel
theorem d_Pr_fold_8 : decode b_Pr_fold 8 = .ok (.aload_n 0, 1) := by decide +kernel
theorem d_Pr_fold_9 : decode b_Pr_fold 9 = .ok (.getfield 15, 3) := by decide +kernel
theorem d_Pr_fold_12 : decode b_Pr_fold 12 = .ok (.iload_n 1, 1) := by decide +kernel
theorem d_Pr_fold_13 : decode b_Pr_fold 13 = .ok (.laload, 1) := by decide +kernel
theorem d_Pr_fold_14 : decode b_Pr_fold 14 = .ok (.lconst 0, 1) := by decide +kernel
theorem d_Pr_fold_15 : decode b_Pr_fold 15 = .ok (.lcmp, 1) := by decide +kernel
theorem d_Pr_fold_16 : decode b_Pr_fold 16 = .ok (.ifCond .eq 22, 3) := by decide +kernel
theorem d_Pr_fold_19 : decode b_Pr_fold 19 = .ok (.aload_n 0, 1) := by decide +kernel
theorem d_Pr_fold_20 : decode b_Pr_fold 20 = .ok (.aload_n 0, 1) := by decide +kernel
theorem d_Pr_fold_21 : decode b_Pr_fold 21 = .ok (.getfield 15, 3) := by decide +kernel
theorem d_Pr_fold_24 : decode b_Pr_fold 24 = .ok (.iload_n 1, 1) := by decide +kernel
theorem d_Pr_fold_25 : decode b_Pr_fold 25 = .ok (.laload, 1) := by decide +kernel
theorem d_Pr_fold_26 : decode b_Pr_fold 26 = .ok (.aload_n 0, 1) := by decide +kernel
theorem d_Pr_fold_27 : decode b_Pr_fold 27 = .ok (.getfield 30, 3) := by decide +kernel
theorem d_Pr_fold_30 : decode b_Pr_fold 30 = .ok (.aload_n 0, 1) := by decide +kernel
theorem d_Pr_fold_31 : decode b_Pr_fold 31 = .ok (.getfield 33, 3) := by decide +kernel
theorem d_Pr_fold_34 : decode b_Pr_fold 34 = .ok (.iload_n 1, 1) := by decide +kernel
theorem d_Pr_fold_35 : decode b_Pr_fold 35 = .ok (.invokevirtual 60, 3) := by decide +kernel
theorem d_Pr_fold_38 : decode b_Pr_fold 38 = .ok (.iinc 1 1, 3) := by decide +kernel
theorem d_Pr_fold_41 : decode b_Pr_fold 41 = .ok (.goto (-39), 3) := by decide +kernel
theorem d_Pr_fold_44 : decode b_Pr_fold 44 = .ok (.return_, 1) := by decide +kernel
section
variable {p : Program} {l : Launch} {e : Env} {R : Room} {s : State} {m : MethodId} {args : Array Value} {below : List Frame} {meth : Method} {c : Code} {cells slots : Nat} {Q : State → Prop}
set_option maxHeartbeats 4000000 in
set_option maxRecDepth 100000 in
theorem lp_Pr_fold (hx : p.tables.exec = Jvm.exec) (hb : c.code = b_Pr_fold) (hts : ∀ w ∈ w_Pr_fold, w.before args s = true) (hown : s.vm.findClass R_Pr = some m.cls) (hml : c.maxLocals = 2) (hRf : 1 ≤ R.frames) (hRl : 30 ≤ R.locals) {E : kr_E} {h pa ga gw mm G : Nat} (hE : kr_ok E) (hP : kr_P E h pa ga gw mm G) (hB : kr_B E s) {v : Nat → Nat} (hbd : v (h + 1) + v (h + 2) * G < kw_M 16) (hh8 : v (h + 2) < kw_M 8)
    (kk : ∀ (w : Nat → Nat) (H : Heap) (ls : Array Slot) (locs : List Loc), kr_W E w H → w (h + 1) = v (h + 1) + v (h + 2) * G → (∀ q, q ≠ h + 1 → w q = v q) → (∀ q ∈ locs, q.base = h + 1) → W p l e R s m args below meth c H locs 0 0 Q (F0 m 44 ls [])) :
    ∀ (n i : Nat) (w : Nat → Nat) (H : Heap) (ls : Array Slot) (locs : List Loc), i + n = 8 → kr_W E w H → w (h + 1) = v (h + 1) + v (h + 2) % kw_M i * G → (∀ q, q ≠ h + 1 → w q = v q) → (∀ q ∈ locs, q.base = h + 1) → lv_has ls 2 [(1, .int (nI i)), (0, .ref h)] → W p l e R s m args below meth c H locs 0 0 Q (F0 m 2 ls []) := by
  intro n
  induction n with
  | zero =>
    intro i w H ls locs hn hW h1 ho hlc hl
    obtain rfl : i = 8 := by omega
    refine lv_iload_n hx hb d_Pr_fold_2 rfl (lv_at hl 0 rfl) ?_
    refine lv_bipush (v := nI 8) hx hb d_Pr_fold_3 (by decide) ?_
    refine lv_icmp_ge hx hb d_Pr_fold_5 rfl (fun hc => ?_) (fun hc => ?_)
    · rw [Nat.mod_eq_of_lt hh8] at h1
      exact kk w H ls locs hW h1 ho hlc
    · exact absurd (nI_le (Nat.le_refl 8) (by decide)) hc
  | succ n ih =>
    intro i w H ls locs hn hW h1 ho hlc hl
    have hi : i < 8 := by omega
    have hK := hB.1
    have hT := kr_T hE hB
    have hhi := hP.2.2.2.2.2.2.2.2.2.1
    have hO := kr_obj hW hP.1 hP.2.1
    have hsh := kr_src hE hW hB (Or.inl hhi)
    rw [ho (h + 2) (by omega)] at hsh
    have lX := kw_d_lt (v (h + 2)) i
    have hgw := hP.2.2.2.2.2.2.1
    have hvg := hP.gap hW
    have hstep : v (h + 2) % kw_M (i + 1) * G = v (h + 2) % kw_M i * G + kw_d (v (h + 2)) i * G * kw_M i := by
      rw [kw_d_lo, Nat.add_mul, Nat.mul_comm (kw_M i), Nat.mul_assoc, Nat.mul_comm (kw_M i) G, ← Nat.mul_assoc]
    have hle : v (h + 2) % kw_M (i + 1) * G ≤ v (h + 2) * G := Nat.mul_le_mul (Nat.mod_le _ _) (Nat.le_refl G)
    have hTl : w (h + 1) + kw_d (v (h + 2)) i * (w ga % kw_M gw) * kw_M i < kw_M 16 := by
      rw [h1, hvg, Nat.mod_eq_of_lt hgw.1]
      omega
    refine lv_iload_n hx hb d_Pr_fold_2 rfl (lv_at hl 0 rfl) ?_
    refine lv_bipush (v := nI 8) hx hb d_Pr_fold_3 (by decide) ?_
    refine lv_icmp_ge hx hb d_Pr_fold_5 rfl (fun hc => ?_) (fun hc => ?_)
    · exact absurd hc (nI_ge hi (by decide))
    · refine lv_aload_n hx hb d_Pr_fold_8 rfl (lv_at hl 1 rfl) ?_
      refine kq_get hx hb hts kt_F_Pr hown hK hO rfl 5 (by decide) kt_w66 rfl d_Pr_fold_9 ?_
      refine lv_iload_n hx hb d_Pr_fold_12 rfl (lv_at hl 0 rfl) ?_
      refine kq_lald hx hb (hsh) (hi) (by decide) (rfl) d_Pr_fold_13 ?_
      refine lv_lconst (v := lN 0) hx hb d_Pr_fold_14 (by decide) ?_
      refine W.lcmp hx hb d_Pr_fold_15 ?_
      refine lv_if_eq hx hb d_Pr_fold_16 rfl (fun hc0 => ?_) (fun hc0 => ?_)
      · have h0 : kw_d (v (h + 2)) i = 0 := (kq_cmp_eq (by omega) (by decide)).mp hc0
        refine lv_iinc (k := 0) (v := nI (i + 1)) hx hb d_Pr_fold_38 hl rfl (kq_inc i) (by decide) rfl (fun ls hl => ?_)
        have hl : lv_has ls 2 [(1, .int (nI (i + 1))), (0, .ref h)] := hl
        refine lv_goto hx hb d_Pr_fold_41 rfl ?_
        refine ih (i + 1) w H ls locs (by omega) hW ?_ ho hlc (lv_sub hl [0, 1] rfl)
        rw [h1, hstep, h0, Nat.zero_mul, Nat.zero_mul]
        omega
      · refine lv_aload_n hx hb d_Pr_fold_19 rfl (lv_at hl 1 rfl) ?_
        refine lv_aload_n hx hb d_Pr_fold_20 rfl (lv_at hl 1 rfl) ?_
        refine kq_get hx hb hts kt_F_Pr hown hK hO rfl 5 (by decide) kt_w66 rfl d_Pr_fold_21 ?_
        refine lv_iload_n hx hb d_Pr_fold_24 rfl (lv_at hl 0 rfl) ?_
        refine kq_lald hx hb (hsh) (hi) (by decide) (rfl) d_Pr_fold_25 ?_
        refine lv_aload_n hx hb d_Pr_fold_26 rfl (lv_at hl 1 rfl) ?_
        refine kq_get hx hb hts kt_F_Pr hown hK hO rfl 1 (by decide) kt_w62 rfl d_Pr_fold_27 ?_
        refine lv_aload_n hx hb d_Pr_fold_30 rfl (lv_at hl 1 rfl) ?_
        refine kq_get hx hb hts kt_F_Pr hown hK hO rfl 2 (by decide) kt_w63 rfl d_Pr_fold_31 ?_
        refine lv_iload_n hx hb d_Pr_fold_34 rfl (lv_at hl 0 rfl) ?_
        refine kq_call (va_runV (As := [.long (lN (kw_d (v (h + 2)) i)), .ref ga, .int (nI gw), .int (nI i)]) (rest := []) ⟨hx, hb, hml, hown, hts⟩ (c_Pr_addRow l E h pa ga gw mm G w H hE hP hW ga (kw_d (v (h + 2)) i) i gw (Or.inr hP.2.2.2.1.1) lX hgw.2 (by omega) hTl) (cwV 4 hts (kt_inV kt_w210 kt_w207 kt_w209 kt_s2 kt_w3) rfl rfl rfl (by decide +kernel) ⟨Nat.le_trans (Nat.le_of_ble_eq_true rfl) hRf, Nat.le_trans (Nat.le_of_ble_eq_true rfl) hRl⟩) (kq_preV (kr_st E) (hB) (kq_recv hB.1 hO rfl)) rfl rfl hl.1 rfl (lv_room (Nat.le_of_ble_eq_true rfl)) d_Pr_fold_35 ⟨Nat.zero_le _, Nat.zero_le _⟩) (fun v9 H9 L9 hq9 hL9 => ?_)
        obtain ⟨rfl, hW9⟩ := hq9
        refine W.eq (g2 := F0 m 38 ls []) rfl ?_
        refine lv_iinc (k := 0) (v := nI (i + 1)) hx hb d_Pr_fold_38 hl rfl (kq_inc i) (by decide) rfl (fun ls hl => ?_)
        have hl : lv_has ls 2 [(1, .int (nI (i + 1))), (0, .ref h)] := hl
        refine lv_goto hx hb d_Pr_fold_41 rfl ?_
        refine ih (i + 1) _ H9 ls _ (by omega) hW9 ?_ (fun q hq => by rw [kq_up_ne hq]; exact ho q hq) (t_lL (free := fun q => q = h + 1) hlc hL9) (lv_sub hl [0, 1] rfl)
        rw [kq_up_at, h1, hvg, Nat.mod_eq_of_lt hgw.1, hstep, Nat.add_assoc]
end
set_option maxHeartbeats 4000000 in
set_option maxRecDepth 100000 in
theorem c_Pr_fold (l : Launch) (E : kr_E) (h pa ga gw mm G : Nat) (v : Nat → Nat) (H : Heap) (hE : kr_ok E) (hP : kr_P E h pa ga gw mm G) (hW : kr_W E v H) (hbd : v (h + 1) + v (h + 2) * G < kw_M 16) : Met l y_Pr_fold w_Pr_fold ({ frames := 1, cells := 0, slots := 0, locals := 30 }) (kq_P [.ref h] H (kr_B E)) (kq_Q (fun o H1 => o = none ∧ kr_W E (va_up v (h + 1) (v (h + 1) + v (h + 2) * G)) H1)) 0 0 (fun q => q = h + 1) := by
  refine Met.ofW (cc := b_Pr_fold) (maxL := 2) (ret := none) (by decide) rfl ?_
  intro p e s m args below meth c s₁ B0 hml hv
  obtain ⟨rfl, hH, hB⟩ := hv
  have hx := B0.exec
  have hb := B0.bytes
  have hret := B0.returns
  have hts := atoms_spec (ws := w_Pr_fold) B0.pre
  have hown : s.vm.findClass R_Pr = some m.cls := findClass_of_methodNamed B0.named
  have hlocks := B0.notSynchronized
  rw [hH]
  have hl := lv_entry ([.ref h]) (n := 2) (Nat.le_of_ble_eq_true rfl)
  rw [lg_entry_eq]
  generalize (lg_sl ([.ref h]) ++ List.replicate (2 - (lg_sl ([.ref h])).length) Slot.unset).toArray = ls at hl ⊢
  have hl : lv_has ls 2 [(0, .ref h)] := hl
  refine lv_iconst (v := nI 0) hx hb d_Pr_fold_0 (by decide) ?_
  refine lv_istore_n hx hb d_Pr_fold_1 rfl hl (by decide) rfl (fun ls hl => ?_)
  have hl : lv_has ls 2 [(1, .int (nI 0)), (0, .ref h)] := hl
  refine lp_Pr_fold hx hb hts hown hml (Nat.le_of_ble_eq_true rfl) (Nat.le_of_ble_eq_true rfl) hE hP hB hbd (kr_lt hE hW (Or.inl hP.2.2.2.2.2.2.2.2.2.1)) (fun w H1 ls locs hW1 h1 ho hlc => ?_) 8 0 v H ls [] rfl hW (by rw [kw_M_0, Nat.mod_one, Nat.zero_mul]; omega) (fun _ _ => rfl) (fun q h => by cases h) (lv_sub hl [0, 1] rfl)
  refine W.vret hx hb hret (fun t ht _ => ⟨_, rfl, rfl, ?_⟩) hlc d_Pr_fold_44
  rw [ht]
  refine kr_same (fun q => ?_) hW1
  by_cases e : q = h + 1
  · subst e
    rw [kq_up_at, h1]
  · rw [kq_up_ne e]
    exact ho q e
end
section
/-! KeyCurve$Prime: product (own rows). -/
theorem d_Pr_product_0 : decode b_Pr_product 0 = .ok (.iconst 0, 1) := by decide +kernel
theorem d_Pr_product_1 : decode b_Pr_product 1 = .ok (.istore 4, 2) := by decide +kernel
theorem d_Pr_product_3 : decode b_Pr_product 3 = .ok (.iload 4, 2) := by decide +kernel
theorem d_Pr_product_5 : decode b_Pr_product 5 = .ok (.bipush 16, 2) := by decide +kernel
theorem d_Pr_product_7 : decode b_Pr_product 7 = .ok (.if_icmp .ge 17, 3) := by decide +kernel
theorem d_Pr_product_10 : decode b_Pr_product 10 = .ok (.aload_n 0, 1) := by decide +kernel
theorem d_Pr_product_11 : decode b_Pr_product 11 = .ok (.getfield 9, 3) := by decide +kernel
theorem d_Pr_product_14 : decode b_Pr_product 14 = .ok (.iload 4, 2) := by decide +kernel
theorem d_Pr_product_16 : decode b_Pr_product 16 = .ok (.lconst 0, 1) := by decide +kernel
theorem d_Pr_product_17 : decode b_Pr_product 17 = .ok (.lastore, 1) := by decide +kernel
theorem d_Pr_product_18 : decode b_Pr_product 18 = .ok (.iinc 4 1, 3) := by decide +kernel
theorem d_Pr_product_21 : decode b_Pr_product 21 = .ok (.goto (-18), 3) := by decide +kernel
theorem d_Pr_product_24 : decode b_Pr_product 24 = .ok (.iconst 0, 1) := by decide +kernel
theorem d_Pr_product_25 : decode b_Pr_product 25 = .ok (.istore 4, 2) := by decide +kernel
theorem d_Pr_product_27 : decode b_Pr_product 27 = .ok (.iload 4, 2) := by decide +kernel
theorem d_Pr_product_29 : decode b_Pr_product 29 = .ok (.bipush 8, 2) := by decide +kernel
theorem d_Pr_product_31 : decode b_Pr_product 31 = .ok (.if_icmp .ge 22, 3) := by decide +kernel
theorem d_Pr_product_34 : decode b_Pr_product 34 = .ok (.aload_n 0, 1) := by decide +kernel
theorem d_Pr_product_35 : decode b_Pr_product 35 = .ok (.aload_n 2, 1) := by decide +kernel
theorem d_Pr_product_36 : decode b_Pr_product 36 = .ok (.iload 4, 2) := by decide +kernel
theorem d_Pr_product_38 : decode b_Pr_product 38 = .ok (.laload, 1) := by decide +kernel
theorem d_Pr_product_39 : decode b_Pr_product 39 = .ok (.aload_n 3, 1) := by decide +kernel
theorem d_Pr_product_40 : decode b_Pr_product 40 = .ok (.bipush 8, 2) := by decide +kernel
theorem d_Pr_product_42 : decode b_Pr_product 42 = .ok (.iload 4, 2) := by decide +kernel
theorem d_Pr_product_44 : decode b_Pr_product 44 = .ok (.invokevirtual 60, 3) := by decide +kernel
theorem d_Pr_product_47 : decode b_Pr_product 47 = .ok (.iinc 4 1, 3) := by decide +kernel
theorem d_Pr_product_50 : decode b_Pr_product 50 = .ok (.goto (-23), 3) := by decide +kernel
theorem d_Pr_product_53 : decode b_Pr_product 53 = .ok (.iconst 0, 1) := by decide +kernel
theorem d_Pr_product_54 : decode b_Pr_product 54 = .ok (.istore 4, 2) := by decide +kernel
theorem d_Pr_product_56 : decode b_Pr_product 56 = .ok (.iload 4, 2) := by decide +kernel
theorem d_Pr_product_58 : decode b_Pr_product 58 = .ok (.iconst 4, 1) := by decide +kernel
theorem d_Pr_product_59 : decode b_Pr_product 59 = .ok (.if_icmp .ge 20, 3) := by decide +kernel
theorem d_Pr_product_62 : decode b_Pr_product 62 = .ok (.aload_n 0, 1) := by decide +kernel
theorem d_Pr_product_63 : decode b_Pr_product 63 = .ok (.invokevirtual 64, 3) := by decide +kernel
theorem d_Pr_product_66 : decode b_Pr_product 66 = .ok (.ifCond .eq 13, 3) := by decide +kernel
theorem d_Pr_product_69 : decode b_Pr_product 69 = .ok (.aload_n 0, 1) := by decide +kernel
theorem d_Pr_product_70 : decode b_Pr_product 70 = .ok (.invokevirtual 68, 3) := by decide +kernel
theorem d_Pr_product_73 : decode b_Pr_product 73 = .ok (.iinc 4 1, 3) := by decide +kernel
theorem d_Pr_product_76 : decode b_Pr_product 76 = .ok (.goto (-20), 3) := by decide +kernel
theorem d_Pr_product_79 : decode b_Pr_product 79 = .ok (.aload_n 1, 1) := by decide +kernel
theorem d_Pr_product_80 : decode b_Pr_product 80 = .ok (.aload_n 0, 1) := by decide +kernel
theorem d_Pr_product_81 : decode b_Pr_product 81 = .ok (.getfield 9, 3) := by decide +kernel
theorem d_Pr_product_84 : decode b_Pr_product 84 = .ok (.invokestatic 71, 3) := by decide +kernel
theorem d_Pr_product_87 : decode b_Pr_product 87 = .ok (.aload_n 0, 1) := by decide +kernel
theorem d_Pr_product_88 : decode b_Pr_product 88 = .ok (.aload_n 1, 1) := by decide +kernel
theorem d_Pr_product_89 : decode b_Pr_product 89 = .ok (.invokevirtual 53, 3) := by decide +kernel
theorem d_Pr_product_92 : decode b_Pr_product 92 = .ok (.return_, 1) := by decide +kernel
section
variable {p : Program} {l : Launch} {e : Env} {R : Room} {s : State} {m : MethodId} {args : Array Value} {below : List Frame} {meth : Method} {c : Code} {cells slots : Nat} {Q : State → Prop}
set_option maxHeartbeats 4000000 in
set_option maxRecDepth 100000 in
theorem la_Pr_product (hx : p.tables.exec = Jvm.exec) (hb : c.code = b_Pr_product) (hts : ∀ w ∈ w_Pr_product, w.before args s = true) (hown : s.vm.findClass R_Pr = some m.cls) {E : kr_E} {h pa ga gw mm G : Nat} (hE : kr_ok E) (hP : kr_P E h pa ga gw mm G) (hB : kr_B E s) {r a b : Nat} {v : Nat → Nat}
    (kk : ∀ (w : Nat → Nat) (H : Heap) (ls : Array Slot) (locs : List Loc), kr_W E w H → w (h + 1) = 0 → (∀ q, q ≠ h + 1 → w q = v q) → (∀ q ∈ locs, q.base = h + 1) → lv_has ls 5 [(0, .ref h), (1, .ref r), (2, .ref a), (3, .ref b)] → W p l e R s m args below meth c H locs 0 0 Q (F0 m 24 ls [])) :
    ∀ (n i : Nat) (w : Nat → Nat) (H : Heap) (ls : Array Slot) (locs : List Loc), i + n = 16 → kr_W E w H → w (h + 1) % kw_M i = 0 → (∀ q, q ≠ h + 1 → w q = v q) → (∀ q ∈ locs, q.base = h + 1) → lv_has ls 5 [(4, .int (nI i)), (0, .ref h), (1, .ref r), (2, .ref a), (3, .ref b)] → W p l e R s m args below meth c H locs 0 0 Q (F0 m 3 ls []) := by
  intro n
  induction n with
  | zero =>
    intro i w H ls locs hn hW h1 ho hlc hl
    obtain rfl : i = 16 := by omega
    refine lv_iload hx hb d_Pr_product_3 (lv_at hl 0 rfl) ?_
    refine lv_bipush (v := nI 16) hx hb d_Pr_product_5 (by decide) ?_
    refine lv_icmp_ge hx hb d_Pr_product_7 rfl (fun hc => ?_) (fun hc => ?_)
    · rw [Nat.mod_eq_of_lt (kr_wide hP hW).2] at h1
      exact kk w H ls locs hW h1 ho hlc (lv_sub hl [1, 2, 3, 4] rfl)
    · exact absurd (nI_le (Nat.le_refl 16) (by decide)) hc
  | succ n ih =>
    intro i w H ls locs hn hW h1 ho hlc hl
    have hi : i < 16 := by omega
    have hK := hB.1
    have hT := kr_T hE hB
    have hwd := hP.2.2.2.2.2.2.2.2.1
    have hO := kr_obj hW hP.1 hP.2.1
    obtain ⟨hw1, hw2⟩ := kr_wide hP hW
    have hW1 := kr_putn hE hW hwd.1 hwd.2 (kw_s_lt hw2 hi (show 0 < 4294967296 by decide))
    refine lv_iload hx hb d_Pr_product_3 (lv_at hl 0 rfl) ?_
    refine lv_bipush (v := nI 16) hx hb d_Pr_product_5 (by decide) ?_
    refine lv_icmp_ge hx hb d_Pr_product_7 rfl (fun hc => ?_) (fun hc => ?_)
    · exact absurd hc (nI_ge hi (by decide))
    · refine lv_aload_n hx hb d_Pr_product_10 rfl (lv_at hl 1 rfl) ?_
      refine kq_get hx hb hts kt_F_Pr hown hK hO rfl 4 (by decide) kt_w65 rfl d_Pr_product_11 ?_
      refine lv_iload hx hb d_Pr_product_14 (lv_at hl 0 rfl) ?_
      refine lv_lconst (v := lN 0) hx hb d_Pr_product_16 (by decide) ?_
      refine kq_last hx hb (hT) (hw1) (hi) (by decide) ((by decide)) d_Pr_product_17 ?_
      refine lv_iinc (k := 0) (v := nI (i + 1)) hx hb d_Pr_product_18 hl rfl (kq_inc i) (by decide) rfl (fun ls hl => ?_)
      have hl : lv_has ls 5 [(4, .int (nI (i + 1))), (0, .ref h), (1, .ref r), (2, .ref a), (3, .ref b)] := hl
      refine lv_goto hx hb d_Pr_product_21 rfl ?_
      refine ih (i + 1) _ _ ls _ (by omega) hW1 ?_ (fun q hq => by rw [kq_up_ne hq]; exact ho q hq) (t_lc (free := fun q => q = h + 1) hlc rfl) (lv_sub hl [0, 1, 2, 3, 4] rfl)
      rw [kq_up_at, kw_s_lo _ _ _ (by decide), h1]
      rfl
set_option maxHeartbeats 4000000 in
set_option maxRecDepth 100000 in
theorem lb_Pr_product (hx : p.tables.exec = Jvm.exec) (hb : c.code = b_Pr_product) (hts : ∀ w ∈ w_Pr_product, w.before args s = true) (hown : s.vm.findClass R_Pr = some m.cls) (hml : c.maxLocals = 5) (hRf : 1 ≤ R.frames) (hRl : 30 ≤ R.locals) {E : kr_E} {h pa ga gw mm G : Nat} (hE : kr_ok E) (hP : kr_P E h pa ga gw mm G) (hB : kr_B E s) {r a b : Nat} {v : Nat → Nat} (ha : kr_in E a) (hb0 : kr_in E b) (hla : v a < kw_M 8) (hlb : v b < kw_M 8)
    (kk : ∀ (w : Nat → Nat) (H : Heap) (ls : Array Slot) (locs : List Loc), kr_W E w H → w (h + 1) = v a * v b → (∀ q, q ≠ h + 1 → w q = v q) → (∀ q ∈ locs, q.base = h + 1) → lv_has ls 5 [(0, .ref h), (1, .ref r)] → W p l e R s m args below meth c H locs 0 0 Q (F0 m 53 ls [])) :
    ∀ (n i : Nat) (w : Nat → Nat) (H : Heap) (ls : Array Slot) (locs : List Loc), i + n = 8 → kr_W E w H → w (h + 1) = v a % kw_M i * v b → (∀ q, q ≠ h + 1 → w q = v q) → (∀ q ∈ locs, q.base = h + 1) → lv_has ls 5 [(4, .int (nI i)), (0, .ref h), (1, .ref r), (2, .ref a), (3, .ref b)] → W p l e R s m args below meth c H locs 0 0 Q (F0 m 27 ls []) := by
  intro n
  induction n with
  | zero =>
    intro i w H ls locs hn hW h1 ho hlc hl
    obtain rfl : i = 8 := by omega
    refine lv_iload hx hb d_Pr_product_27 (lv_at hl 0 rfl) ?_
    refine lv_bipush (v := nI 8) hx hb d_Pr_product_29 (by decide) ?_
    refine lv_icmp_ge hx hb d_Pr_product_31 rfl (fun hc => ?_) (fun hc => ?_)
    · rw [Nat.mod_eq_of_lt hla] at h1
      exact kk w H ls locs hW h1 ho hlc (lv_sub hl [1, 2] rfl)
    · exact absurd (nI_le (Nat.le_refl 8) (by decide)) hc
  | succ n ih =>
    intro i w H ls locs hn hW h1 ho hlc hl
    have hi : i < 8 := by omega
    have hO := kr_obj hW hP.1 hP.2.1
    have hsa := kr_src hE hW hB ha
    rw [ho a (kr_in_ne hE hP ha)] at hsa
    have hvb := ho b (kr_in_ne hE hP hb0)
    have lX := kw_d_lt (v a) i
    have hstep : v a % kw_M (i + 1) * v b = v a % kw_M i * v b + kw_d (v a) i * v b * kw_M i := by
      rw [kw_d_lo, Nat.add_mul, Nat.mul_comm (kw_M i), Nat.mul_assoc, Nat.mul_comm (kw_M i) (v b), ← Nat.mul_assoc]
    have hle : v a % kw_M (i + 1) * v b ≤ (kw_M 8 - 1) * (kw_M 8 - 1) := Nat.mul_le_mul (Nat.le_trans (Nat.mod_le _ _) (by omega)) (by omega)
    have hTl : w (h + 1) + kw_d (v a) i * (w b % kw_M 8) * kw_M i < kw_M 16 := by
      rw [h1, hvb, Nat.mod_eq_of_lt hlb, ← hstep, kw_M_16]
      rw [kw_M_8] at hle ⊢
      omega
    refine lv_iload hx hb d_Pr_product_27 (lv_at hl 0 rfl) ?_
    refine lv_bipush (v := nI 8) hx hb d_Pr_product_29 (by decide) ?_
    refine lv_icmp_ge hx hb d_Pr_product_31 rfl (fun hc => ?_) (fun hc => ?_)
    · exact absurd hc (nI_ge hi (by decide))
    · refine lv_aload_n hx hb d_Pr_product_34 rfl (lv_at hl 1 rfl) ?_
      refine lv_aload_n hx hb d_Pr_product_35 rfl (lv_at hl 3 rfl) ?_
      refine lv_iload hx hb d_Pr_product_36 (lv_at hl 0 rfl) ?_
      refine kq_lald hx hb (hsa) (hi) (by decide) (rfl) d_Pr_product_38 ?_
      refine lv_aload_n hx hb d_Pr_product_39 rfl (lv_at hl 4 rfl) ?_
      refine lv_bipush (v := nI 8) hx hb d_Pr_product_40 (by decide) ?_
      refine lv_iload hx hb d_Pr_product_42 (lv_at hl 0 rfl) ?_
      refine kq_call (va_runV (As := [.long (lN (kw_d (v a) i)), .ref b, .int (nI 8), .int (nI i)]) (rest := []) ⟨hx, hb, hml, hown, hts⟩ (c_Pr_addRow l E h pa ga gw mm G w H hE hP hW b (kw_d (v a) i) i 8 hb0 lX (by decide) (by omega) hTl) (cwV 4 hts (kt_inV kt_w210 kt_w207 kt_w209 kt_s2 kt_w3) rfl rfl rfl (by decide +kernel) ⟨Nat.le_trans (Nat.le_of_ble_eq_true rfl) hRf, Nat.le_trans (Nat.le_of_ble_eq_true rfl) hRl⟩) (kq_preV (kr_st E) (hB) (kq_recv hB.1 hO rfl)) rfl rfl hl.1 rfl (lv_room (Nat.le_of_ble_eq_true rfl)) d_Pr_product_44 ⟨Nat.zero_le _, Nat.zero_le _⟩) (fun v9 H9 L9 hq9 hL9 => ?_)
      obtain ⟨rfl, hW9⟩ := hq9
      refine W.eq (g2 := F0 m 47 ls []) rfl ?_
      refine lv_iinc (k := 0) (v := nI (i + 1)) hx hb d_Pr_product_47 hl rfl (kq_inc i) (by decide) rfl (fun ls hl => ?_)
      have hl : lv_has ls 5 [(4, .int (nI (i + 1))), (0, .ref h), (1, .ref r), (2, .ref a), (3, .ref b)] := hl
      refine lv_goto hx hb d_Pr_product_50 rfl ?_
      refine ih (i + 1) _ H9 ls _ (by omega) hW9 ?_ (fun q hq => by rw [kq_up_ne hq]; exact ho q hq) (t_lL (free := fun q => q = h + 1) hlc hL9) (lv_sub hl [0, 1, 2, 3, 4] rfl)
      rw [kq_up_at, h1, hvb, Nat.mod_eq_of_lt hlb, hstep]
set_option maxHeartbeats 4000000 in
set_option maxRecDepth 100000 in
theorem lc_Pr_product (hx : p.tables.exec = Jvm.exec) (hb : c.code = b_Pr_product) (hts : ∀ w ∈ w_Pr_product, w.before args s = true) (hown : s.vm.findClass R_Pr = some m.cls) (hml : c.maxLocals = 5) (hRf : 2 ≤ R.frames) (hRl : 51 ≤ R.locals) {E : kr_E} {h pa ga gw mm G : Nat} (hE : kr_ok E) (hP : kr_P E h pa ga gw mm G) (hB : kr_B E s) {r V : Nat} {v : Nat → Nat}
    (kk : ∀ (w : Nat → Nat) (H : Heap) (ls : Array Slot) (locs : List Loc), kr_W E w H → w (h + 1) < kw_M 8 → w (h + 1) % mm = V % mm → (∀ q, q ≠ h + 1 → q ≠ h + 2 → w q = v q) → (∀ q ∈ locs, q.base = h + 1 ∨ q.base = h + 2) → lv_has ls 5 [(0, .ref h), (1, .ref r)] → W p l e R s m args below meth c H locs 0 0 Q (F0 m 79 ls [])) :
    ∀ (n i : Nat) (w : Nat → Nat) (H : Heap) (ls : Array Slot) (locs : List Loc), i + n = 4 → kr_W E w H → w (h + 1) % mm = V % mm → kp_folds G n (w (h + 1)) < kw_M 8 → (∀ q, q ≠ h + 1 → q ≠ h + 2 → w q = v q) → (∀ q ∈ locs, q.base = h + 1 ∨ q.base = h + 2) → lv_has ls 5 [(4, .int (nI i)), (0, .ref h), (1, .ref r)] → W p l e R s m args below meth c H locs 0 0 Q (F0 m 56 ls []) := by
  intro n
  induction n with
  | zero =>
    intro i w H ls locs hn hW h1 h2 ho hlc hl
    obtain rfl : i = 4 := by omega
    refine lv_iload hx hb d_Pr_product_56 (lv_at hl 0 rfl) ?_
    refine lv_iconst (v := nI 4) hx hb d_Pr_product_58 (by decide) ?_
    refine lv_icmp_ge hx hb d_Pr_product_59 rfl (fun hc => ?_) (fun hc => ?_)
    · exact kk w H ls locs hW h2 h1 ho hlc (lv_sub hl [1, 2] rfl)
    · exact absurd (nI_le (Nat.le_refl 4) (by decide)) hc
  | succ n ih =>
    intro i w H ls locs hn hW h1 h2 ho hlc hl
    have hi : i < 4 := by omega
    have hO := kr_obj hW hP.1 hP.2.1
    have hok := hP.2.2.2.2.1
    have hVl := (kr_wide hP hW).2
    refine lv_iload hx hb d_Pr_product_56 (lv_at hl 0 rfl) ?_
    refine lv_iconst (v := nI 4) hx hb d_Pr_product_58 (by decide) ?_
    refine lv_icmp_ge hx hb d_Pr_product_59 rfl (fun hc => ?_) (fun hc => ?_)
    · exact absurd hc (nI_ge hi (by decide))
    · refine lv_aload_n hx hb d_Pr_product_62 rfl (lv_at hl 1 rfl) ?_
      refine kq_call (va_runV (As := []) (rest := []) ⟨hx, hb, hml, hown, hts⟩ (c_Pr_takeHigh l E h pa ga gw mm G w H hE hP hW) (cwV 0 hts (kt_inV kt_w215 kt_w212 kt_w214 kt_s3 kt_w3) rfl rfl rfl (by decide +kernel) ⟨Nat.le_trans (Nat.le_of_ble_eq_true rfl) hRf, Nat.le_trans (Nat.le_of_ble_eq_true rfl) hRl⟩) (kq_preV (kr_st E) (hB) (kq_recv hB.1 hO rfl)) rfl rfl hl.1 rfl (lv_room (Nat.le_of_ble_eq_true rfl)) d_Pr_product_63 ⟨Nat.zero_le _, Nat.zero_le _⟩) (fun v9 H9 L9 hq9 hL9 => ?_)
      obtain ⟨rfl, w9, hW9, e1, e2, ho9⟩ := hq9
      refine W.eq (g2 := F0 m 66 ls [.int (kq_z (decide (¬ w (h + 1) / kw_M 8 = 0)))]) rfl ?_
      refine lv_if_eq hx hb d_Pr_product_66 rfl (fun hc0 => ?_) (fun hc0 => ?_)
      · have h0 : w (h + 1) / kw_M 8 = 0 := Classical.not_not.mp (kq_z_eq.mp hc0)
        have e0 : w9 (h + 1) = w (h + 1) := by
          have q := Nat.div_add_mod (w (h + 1)) (kw_M 8)
          rw [h0, Nat.mul_zero, Nat.zero_add] at q
          rw [e1, q]
        refine kk w9 H9 ls _ hW9 (by rw [e1]; exact Nat.mod_lt _ (kw_M_pos 8)) (by rw [e0, h1]) (fun q q1 q2 => by rw [ho9 q q1 q2]; exact ho q q1 q2) (t_lL (free := (fun q => q = h + 1 ∨ q = h + 2)) hlc hL9) (lv_sub hl [1, 2] rfl)
      · have hO9 := kr_obj hW9 hP.1 hP.2.1
        have hf : w9 (h + 1) + w9 (h + 2) * G = kp_fold G (w (h + 1)) := by
          rw [e1, e2]
          rfl
        refine lv_aload_n hx hb d_Pr_product_69 rfl (lv_at hl 1 rfl) ?_
        refine kq_call (va_runV (As := []) (rest := []) ⟨hx, hb, hml, hown, hts⟩ (c_Pr_fold l E h pa ga gw mm G w9 H9 hE hP hW9 (by rw [hf]; exact kp_fold_lt hok hVl)) (cwV 0 hts (kt_inV kt_w219 kt_w216 kt_w218 kt_s4 kt_w3) rfl rfl rfl (by decide +kernel) ⟨Nat.le_trans (Nat.le_of_ble_eq_true rfl) hRf, Nat.le_trans (Nat.le_of_ble_eq_true rfl) hRl⟩) (kq_preV (kr_st E) (hB) (kq_recv hB.1 hO9 rfl)) rfl rfl hl.1 rfl (lv_room (Nat.le_of_ble_eq_true rfl)) d_Pr_product_70 ⟨Nat.zero_le _, Nat.zero_le _⟩) (fun v8 H8 L8 hq8 hL8 => ?_)
        obtain ⟨rfl, hW8⟩ := hq8
        refine W.eq (g2 := F0 m 73 ls []) rfl ?_
        refine lv_iinc (k := 0) (v := nI (i + 1)) hx hb d_Pr_product_73 hl rfl (kq_inc i) (by decide) rfl (fun ls hl => ?_)
        have hl : lv_has ls 5 [(4, .int (nI (i + 1))), (0, .ref h), (1, .ref r)] := hl
        refine lv_goto hx hb d_Pr_product_76 rfl ?_
        refine ih (i + 1) _ H8 ls _ (by omega) hW8 ?_ ?_ (fun q q1 q2 => by rw [kq_up_ne q1, ho9 q q1 q2]; exact ho q q1 q2) (t_lL (free := (fun q => q = h + 1 ∨ q = h + 2)) (t_lL (free := (fun q => q = h + 1 ∨ q = h + 2)) hlc hL9) (fun q h => Or.inl (hL8 q h))) (lv_sub hl [0, 1, 2] rfl)
        · rw [kq_up_at, hf, kp_fold_eq hok, h1]
        · rw [kq_up_at, hf]
          exact h2
end
set_option maxHeartbeats 4000000 in
set_option maxRecDepth 100000 in
theorem c_Pr_product (l : Launch) (E : kr_E) (h pa ga gw mm G : Nat) (v : Nat → Nat) (H : Heap) (hE : kr_ok E) (hP : kr_P E h pa ga gw mm G) (hW : kr_W E v H) (r a b : Nat) (hr : kr_out E r) (ha : kr_in E a) (hb0 : kr_in E b) : Met l y_Pr_product w_Pr_product ({ frames := 2, cells := 0, slots := 0, locals := 51 }) (kq_P [.ref h, .ref r, .ref a, .ref b] H (kr_B E)) (kq_Q (fun o H1 => o = none ∧ ∃ w : Nat → Nat, kr_W E w H1 ∧ w r = v a * v b % mm ∧ ∀ q, q ≠ r → q ≠ h + 1 → q ≠ h + 2 → w q = v q)) 0 0 (fun q => q = r ∨ q = h + 1 ∨ q = h + 2) := by
  refine Met.ofW (cc := b_Pr_product) (maxL := 5) (ret := none) (by decide) rfl ?_
  intro p e s m args below meth c s₁ B0 hml hv
  obtain ⟨rfl, hH, hB⟩ := hv
  have hx := B0.exec
  have hb := B0.bytes
  have hret := B0.returns
  have hts := atoms_spec (ws := w_Pr_product) B0.pre
  have hown : s.vm.findClass R_Pr = some m.cls := findClass_of_methodNamed B0.named
  have hlocks := B0.notSynchronized
  rw [hH]
  have hl := lv_entry ([.ref h, .ref r, .ref a, .ref b]) (n := 5) (Nat.le_of_ble_eq_true rfl)
  rw [lg_entry_eq]
  generalize (lg_sl ([.ref h, .ref r, .ref a, .ref b]) ++ List.replicate (5 - (lg_sl ([.ref h, .ref r, .ref a, .ref b])).length) Slot.unset).toArray = ls at hl ⊢
  have hl : lv_has ls 5 [(0, .ref h), (1, .ref r), (2, .ref a), (3, .ref b)] := hl
  have hok := hP.2.2.2.2.1
  have hT := kr_T hE hB
  have hK := hB.1
  have hla := kr_lt hE hW ha
  have hlb := kr_lt hE hW hb0
  refine lv_iconst (v := nI 0) hx hb d_Pr_product_0 (by decide) ?_
  refine lv_istore hx hb d_Pr_product_1 hl (by decide) rfl (fun ls hl => ?_)
  have hl : lv_has ls 5 [(4, .int (nI 0)), (0, .ref h), (1, .ref r), (2, .ref a), (3, .ref b)] := hl
  refine la_Pr_product hx hb hts hown hE hP hB (v := v) (fun w1 H1 ls L1 hW1 h1 ho1 hL1 hl => ?_) 16 0 v H ls [] rfl hW (by rw [kw_M_0, Nat.mod_one]) (fun _ _ => rfl) (fun q h => by cases h) (lv_sub hl [0, 1, 2, 3, 4] rfl)
  refine lv_iconst (v := nI 0) hx hb d_Pr_product_24 (by decide) ?_
  refine lv_istore hx hb d_Pr_product_25 hl (by decide) rfl (fun ls hl => ?_)
  have hl : lv_has ls 5 [(4, .int (nI 0)), (0, .ref h), (1, .ref r), (2, .ref a), (3, .ref b)] := hl
  refine lb_Pr_product hx hb hts hown hml (Nat.le_of_ble_eq_true rfl) (Nat.le_of_ble_eq_true rfl) hE hP hB (v := v) ha hb0 hla hlb (fun w2 H2 ls L2 hW2 h2 ho2 hL2 hl => ?_) 8 0 w1 H1 ls L1 rfl hW1 (by rw [h1, kw_M_0, Nat.mod_one, Nat.zero_mul]) ho1 hL1 (lv_sub hl [0, 1, 2, 3, 4] rfl)
  refine lv_iconst (v := nI 0) hx hb d_Pr_product_53 (by decide) ?_
  refine lv_istore hx hb d_Pr_product_54 hl (by decide) rfl (fun ls hl => ?_)
  have hl : lv_has ls 5 [(4, .int (nI 0)), (0, .ref h), (1, .ref r)] := hl
  refine lc_Pr_product hx hb hts hown hml (Nat.le_of_ble_eq_true rfl) (Nat.le_of_ble_eq_true rfl) hE hP hB (V := v a * v b) (v := v) (fun w3 H3 ls L3 hW3 h3 h3m ho3 hL3 hl => ?_) 4 0 w2 H2 ls L2 rfl hW2 (by rw [h2]) (kp_folds4 hok (kr_wide hP hW2).2) (fun q q1 _ => ho2 q q1) (fun q h => Or.inl (hL2 q h)) (lv_sub hl [0, 1, 2] rfl)
  have hO := kr_obj hW3 hP.1 hP.2.1
  have hsw : kq_sL s H3 (h + 1) 8 (w3 (h + 1)) := (kq_r.ofV hT (kr_wide hP hW3).1).fewer (by decide)
  have hrr := kr_row hW3 hr
  refine lv_aload_n hx hb d_Pr_product_79 rfl (lv_at hl 1 rfl) ?_
  refine lv_aload_n hx hb d_Pr_product_80 rfl (lv_at hl 0 rfl) ?_
  refine kq_get hx hb hts kt_F_Pr hown hK hO rfl 4 (by decide) kt_w65 rfl d_Pr_product_81 ?_
  refine kq_call (va_runS (As := [.ref r, .ref (h + 1)]) (rest := []) ⟨hx, hb, hml, hown, hts⟩ (c_Wo_copy l (kr_c E) H3 r (h + 1) (w3 r) (w3 (h + 1)) hrr) (va_cwS 2 hts (kt_inS kt_w222 kt_w220 kt_w221 kt_w6) rfl rfl rfl (by decide +kernel) ⟨Nat.le_of_ble_eq_true rfl, Nat.le_of_ble_eq_true rfl⟩) (kq_preS (kq_st_A.both kq_st_r) (⟨hT, hsw⟩)) rfl rfl hl.1 rfl (lv_room (Nat.le_of_ble_eq_true rfl)) d_Pr_product_84 ⟨Nat.zero_le _, Nat.zero_le _⟩) (fun v9 H9 L9 hq9 hL9 => ?_)
  obtain ⟨rfl, rfl⟩ := hq9
  refine W.eq (g2 := F0 m 87 ls []) rfl ?_
  have hW4 := kr_put hE hW3 hr h3
  refine kr_trimEnd (k0 := 0) (k1 := 1) hx hb hts hown hml hE hP hW4 hB hr (Nat.le_of_ble_eq_true rfl) (Nat.le_of_ble_eq_true rfl) hl rfl rfl d_Pr_product_87 d_Pr_product_88 d_Pr_product_89 (fun H5 L5 hW5 hL5 => ?_)
  have hrne : r ≠ h + 1 := kr_in_ne hE hP (Or.inl hr)
  refine W.vret hx hb hret (fun t ht _ => ⟨_, rfl, rfl, _, by rw [ht]; exact hW5, ?_, fun q q1 q2 q3 => ?_⟩) (t_lL (free := (fun q => q = r ∨ q = h + 1 ∨ q = h + 2)) (t_lL (free := (fun q => q = r ∨ q = h + 1 ∨ q = h + 2)) (fun q h => Or.inr (hL3 q h)) (fun q h => Or.inl (hL9 q h))) (fun q h => Or.inl (hL5 q h))) d_Pr_product_92
  · rw [kq_up_at, kq_up_at, h3m]
  · rw [kq_up_ne q1, kq_up_ne q1]
    exact ho3 q q2 q3
end
section
/-! What the methods know of links across the nest and of the constants; Prime.power, inverse (own rows). -/
def kX_G : Nat := 55066263022277343669578718895168534326250603453777594175500187360389116729240
def kY_G : Nat := 32670510020758816978083085130507043184471273380659243275938904335757337482424
/-- what is said of a state, kept by calls and by what they link -/
def kq_s2 (B : State → Prop) : Prop := ∀ u U : State, (u.vm = U.vm ∨ u.WarmedH U.vm) → B u → B U
theorem kq_al {u U : State} (h : u.vm = U.vm ∨ u.WarmedH U.vm) : u.vm.Alike U.vm := by
  rcases h with e | w
  · rw [e]
    exact Vm.Alike.refl _
  · exact w.alike
theorem kq_st.two {B : State → Prop} (h : kq_st B) : kq_s2 B := fun u U hv q => h u U (kq_al hv) q
theorem kq_s2.both {B C : State → Prop} (h : kq_s2 B) (g : kq_s2 C) : kq_s2 (fun U => B U ∧ C U) := fun u U hv q => ⟨h u U hv q.1, g u U hv q.2⟩
theorem kq_s2_F {a : String} {i : Nat} {b n d h : String} : kq_s2 (fun U => va_Nw (.fieldLinkNest a i b n d h) U) := fun _ _ hv q => hv.elim (fun e => va_Nw.same rfl e q) (fun w => va_Nw.warmF w q)
theorem kq_s2_Z {C n d : String} {v : Value} {A : Nat → Prop} {H : Heap} : kq_s2 (fun U => va_Z C n d v A U H) := fun _ _ hv q => q.moved (kq_al hv)
theorem kq_p2S {s : State} {H : Heap} {As : List Value} {B : State → Prop} (hB : kq_s2 B) (h : B s) : PreS s H (kq_P As H B) As :=
  ⟨fun _ U _ _ q => ⟨q.1, q.2.1, hB U _ (Or.inl rfl) q.2.2⟩, fun U hU hW => ⟨rfl, hU, hB s U (Or.inr hW) h⟩⟩
theorem kq_p2V {s : State} {H : Heap} {C : String} {b : Addr} {As : List Value} {B : State → Prop} (hB : kq_s2 B) (h : B s) (hc : ∃ cellB : Cell, H[b]? = some cellB ∧ cellB.vm.isStatics = false ∧ s.vm.findClass C = some cellB.cls) : PreV s H C b (kq_P (.ref b :: As) H B) As :=
  ⟨fun _ U _ _ q => ⟨q.1, q.2.1, hB U _ (Or.inl rfl) q.2.2⟩, hc, fun U hU hW => ⟨rfl, hU, hB s U (Or.inr hW) h⟩⟩
def kr_N (U : State) : Prop := va_Nw (.fieldLinkNest "KeyCurve$Prime" 75 "KeyCurve" "ONE" "[J" "KeyCurve") U ∧ va_Nw (.fieldLinkNest "KeyCurve$Curve" 61 "KeyCurve" "ROOT_POWER" "[J" "KeyCurve") U ∧ va_Nw (.fieldLinkNest "KeyCurve$Curve" 79 "KeyCurve" "FIELD" "[J" "KeyCurve") U ∧ va_Nw (.fieldLinkNest "KeyCurve$Curve" 99 "KeyCurve" "SEVEN" "[J" "KeyCurve") U ∧ va_Nw (.fieldLinkNest "KeyCurve$Curve" 105 "KeyCurve" "ONE" "[J" "KeyCurve") U
theorem kr_N_s2 : kq_s2 kr_N := kq_s2_F.both (kq_s2_F.both (kq_s2_F.both (kq_s2_F.both (kq_s2_F))))
def kr_Z (E : kr_E) (A : Nat → Nat) (U : State) : Prop := va_Z "KeyCurve" "FIELD" "[J" (.ref (A 0)) (kr_L E) U (kr_H E) ∧ va_Z "KeyCurve" "ONE" "[J" (.ref (A 1)) (kr_L E) U (kr_H E) ∧ va_Z "KeyCurve" "SEVEN" "[J" (.ref (A 2)) (kr_L E) U (kr_H E) ∧ va_Z "KeyCurve" "ROOT_POWER" "[J" (.ref (A 3)) (kr_L E) U (kr_H E) ∧ va_Z "KeyCurve" "BASE_X" "[J" (.ref (A 4)) (kr_L E) U (kr_H E) ∧ va_Z "KeyCurve" "BASE_Y" "[J" (.ref (A 5)) (kr_L E) U (kr_H E)
theorem kr_Z_s2 (E : kr_E) (A : Nat → Nat) : kq_s2 (kr_Z E A) := kq_s2_Z.both (kq_s2_Z.both (kq_s2_Z.both (kq_s2_Z.both (kq_s2_Z.both (kq_s2_Z)))))
def kr_A (E : kr_E) (A : Nat → Nat) : Prop := (kr_S E (A 0) ∧ kr_v E (A 0) = kP) ∧ (kr_S E (A 1) ∧ kr_v E (A 1) = 1) ∧ (kr_S E (A 2) ∧ kr_v E (A 2) = 7) ∧ (kr_S E (A 3) ∧ kr_v E (A 3) = (kP + 1) / 4) ∧ (kr_S E (A 4) ∧ kr_v E (A 4) = kX_G) ∧ (kr_S E (A 5) ∧ kr_v E (A 5) = kY_G)
def kr_C (E : kr_E) (A : Nat → Nat) (U : State) : Prop := kr_B E U ∧ kr_N U ∧ kr_Z E A U
theorem kr_C_s2 (E : kr_E) (A : Nat → Nat) : kq_s2 (kr_C E A) := (kr_st E).two.both (kr_N_s2.both (kr_Z_s2 E A))
theorem kr_zat {E : kr_E} {w : Nat → Nat} {H : Heap} {s : State} {C n d : String} {v : Value} (hW : kr_W E w H) (hZ : va_Z C n d v (kr_L E) s (kr_H E)) : va_Z C n d v (kr_L E) s H := hZ.kept (fun a _ hn => hW.2.2.1 a hn)
theorem kr_cst {E : kr_E} {w : Nat → Nat} {H : Heap} {a X : Nat} (hW : kr_W E w H) (h : kr_S E a ∧ kr_v E a = X) : w a = X := by
  rw [hW.2.2.2.2 a h.1]
  exact h.2
section KG
variable {p : Program} {l : Launch} {e : Env} {R : Room} {s : State} {m : MethodId} {args : Array Value} {below : List Frame} {meth : Method} {c : Code} {H : Heap} {locs : List Loc} {cells slots : Nat} {Q : State → Prop}
variable {cc : ByteArray} {pc : Nat} {ls : Array Slot} {rest : List Value}
theorem kq_getsN {C n d own host : String} {v : Value} {index : Nat} {A : Nat → Prop} (hexec : p.tables.exec = Jvm.exec) (hb : c.code = cc) (hZ : va_Z C n d v A s H) (hown : s.vm.findClass own = some m.cls) (hN : va_Nw (.fieldLinkNest own index C n d host) s) (hdg : decode cc pc = .ok (.getstatic index, 3))
    (kk : W p l e R s m args below meth c H locs cells slots Q (F0 m (pc + 3) ls (v :: rest))) : W p l e R s m args below meth c H locs cells slots Q (F0 m pc ls rest) := by
  obtain ⟨cf, kf, fi, f, a, cell, h1, h2, h3, h4, h5, h6, h7, h8⟩ := hZ
  exact va_WgetsN hexec hb hown (va_Nw.use rfl hN) h1 h2 h3 h4 h5 (fun e => by rw [e] at h6; cases h6) h7 rfl hdg kk
end KG
theorem d_Pr_power_0 : decode b_Pr_power 0 = .ok (.aload_n 0, 1) := by decide +kernel
theorem d_Pr_power_1 : decode b_Pr_power 1 = .ok (.getfield 18, 3) := by decide +kernel
theorem d_Pr_power_4 : decode b_Pr_power 4 = .ok (.aload_n 2, 1) := by decide +kernel
theorem d_Pr_power_5 : decode b_Pr_power 5 = .ok (.invokestatic 71, 3) := by decide +kernel
theorem d_Pr_power_8 : decode b_Pr_power 8 = .ok (.aload_n 0, 1) := by decide +kernel
theorem d_Pr_power_9 : decode b_Pr_power 9 = .ok (.getfield 21, 3) := by decide +kernel
theorem d_Pr_power_12 : decode b_Pr_power 12 = .ok (.getstatic 75, 3) := by decide +kernel
theorem d_Pr_power_15 : decode b_Pr_power 15 = .ok (.invokestatic 71, 3) := by decide +kernel
theorem d_Pr_power_18 : decode b_Pr_power 18 = .ok (.sipush 255, 3) := by decide +kernel
theorem d_Pr_power_21 : decode b_Pr_power 21 = .ok (.istore 4, 2) := by decide +kernel
theorem d_Pr_power_23 : decode b_Pr_power 23 = .ok (.iload 4, 2) := by decide +kernel
theorem d_Pr_power_25 : decode b_Pr_power 25 = .ok (.ifCond .lt 50, 3) := by decide +kernel
theorem d_Pr_power_28 : decode b_Pr_power 28 = .ok (.aload_n 0, 1) := by decide +kernel
theorem d_Pr_power_29 : decode b_Pr_power 29 = .ok (.aload_n 0, 1) := by decide +kernel
theorem d_Pr_power_30 : decode b_Pr_power 30 = .ok (.getfield 21, 3) := by decide +kernel
theorem d_Pr_power_33 : decode b_Pr_power 33 = .ok (.aload_n 0, 1) := by decide +kernel
theorem d_Pr_power_34 : decode b_Pr_power 34 = .ok (.getfield 21, 3) := by decide +kernel
theorem d_Pr_power_37 : decode b_Pr_power 37 = .ok (.aload_n 0, 1) := by decide +kernel
theorem d_Pr_power_38 : decode b_Pr_power 38 = .ok (.getfield 21, 3) := by decide +kernel
theorem d_Pr_power_41 : decode b_Pr_power 41 = .ok (.invokevirtual 78, 3) := by decide +kernel
theorem d_Pr_power_44 : decode b_Pr_power 44 = .ok (.aload_n 3, 1) := by decide +kernel
theorem d_Pr_power_45 : decode b_Pr_power 45 = .ok (.iload 4, 2) := by decide +kernel
theorem d_Pr_power_47 : decode b_Pr_power 47 = .ok (.invokestatic 82, 3) := by decide +kernel
theorem d_Pr_power_50 : decode b_Pr_power 50 = .ok (.ifCond .eq 19, 3) := by decide +kernel
theorem d_Pr_power_53 : decode b_Pr_power 53 = .ok (.aload_n 0, 1) := by decide +kernel
theorem d_Pr_power_54 : decode b_Pr_power 54 = .ok (.aload_n 0, 1) := by decide +kernel
theorem d_Pr_power_55 : decode b_Pr_power 55 = .ok (.getfield 21, 3) := by decide +kernel
theorem d_Pr_power_58 : decode b_Pr_power 58 = .ok (.aload_n 0, 1) := by decide +kernel
theorem d_Pr_power_59 : decode b_Pr_power 59 = .ok (.getfield 21, 3) := by decide +kernel
theorem d_Pr_power_62 : decode b_Pr_power 62 = .ok (.aload_n 0, 1) := by decide +kernel
theorem d_Pr_power_63 : decode b_Pr_power 63 = .ok (.getfield 18, 3) := by decide +kernel
theorem d_Pr_power_66 : decode b_Pr_power 66 = .ok (.invokevirtual 78, 3) := by decide +kernel
theorem d_Pr_power_69 : decode b_Pr_power 69 = .ok (.iinc 4 (-1), 3) := by decide +kernel
theorem d_Pr_power_72 : decode b_Pr_power 72 = .ok (.goto (-49), 3) := by decide +kernel
theorem d_Pr_power_75 : decode b_Pr_power 75 = .ok (.aload_n 1, 1) := by decide +kernel
theorem d_Pr_power_76 : decode b_Pr_power 76 = .ok (.aload_n 0, 1) := by decide +kernel
theorem d_Pr_power_77 : decode b_Pr_power 77 = .ok (.getfield 21, 3) := by decide +kernel
theorem d_Pr_power_80 : decode b_Pr_power 80 = .ok (.invokestatic 71, 3) := by decide +kernel
theorem d_Pr_power_83 : decode b_Pr_power 83 = .ok (.return_, 1) := by decide +kernel
section
variable {p : Program} {l : Launch} {e : Env} {R : Room} {s : State} {m : MethodId} {args : Array Value} {below : List Frame} {meth : Method} {c : Code} {cells slots : Nat} {Q : State → Prop}
set_option maxHeartbeats 4000000 in
set_option maxRecDepth 100000 in
theorem lp_Pr_power (hx : p.tables.exec = Jvm.exec) (hb : c.code = b_Pr_power) (hts : ∀ w ∈ w_Pr_power, w.before args s = true) (hown : s.vm.findClass R_Pr = some m.cls) (hml : c.maxLocals = 5) (hRf : 3 ≤ R.frames) (hRl : 75 ≤ R.locals) {E : kr_E} {h pa ga gw mm G : Nat} (hE : kr_ok E) (hP : kr_P E h pa ga gw mm G) (hB : kr_B E s) {r x a0 : Nat} {v : Nat → Nat} (hxS : kr_S E x) (hsd : v (h + 3) = a0)
    (kk : ∀ (w : Nat → Nat) (H : Heap) (ls : Array Slot) (locs : List Loc), kr_W E w H → w (h + 4) = a0 ^ v x % mm → (∀ q, q ≠ h + 1 → q ≠ h + 2 → q ≠ h + 4 → w q = v q) → (∀ q ∈ locs, q.base = h + 1 ∨ q.base = h + 2 ∨ q.base = h + 3 ∨ q.base = h + 4) → lv_has ls 5 [(0, .ref h), (1, .ref r)] → W p l e R s m args below meth c H locs 0 0 Q (F0 m 75 ls [])) :
    ∀ (n : Nat) (w : Nat → Nat) (H : Heap) (ls : Array Slot) (locs : List Loc), n ≤ 256 → kr_W E w H → w (h + 4) = a0 ^ (v x / 2 ^ n) % mm → (∀ q, q ≠ h + 1 → q ≠ h + 2 → q ≠ h + 4 → w q = v q) → (∀ q ∈ locs, q.base = h + 1 ∨ q.base = h + 2 ∨ q.base = h + 3 ∨ q.base = h + 4) → lv_has ls 5 [(4, .int (kq_dn n)), (0, .ref h), (1, .ref r), (3, .ref x)] → W p l e R s m args below meth c H locs 0 0 Q (F0 m 23 ls []) := by
  intro n
  induction n with
  | zero =>
    intro w H ls locs hn hW h1 ho hlc hl
    refine lv_iload hx hb d_Pr_power_23 (lv_at hl 0 rfl) ?_
    refine lv_if_lt hx hb d_Pr_power_25 rfl (fun hc => ?_) (fun hc => ?_)
    · rw [Nat.pow_zero, Nat.div_one] at h1
      exact kk w H ls locs hW h1 ho hlc (lv_sub hl [1, 2] rfl)
    · exact absurd (by decide) hc
  | succ n ih =>
    intro w H ls locs hn hW h1 ho hlc hl
    have hl : lv_has ls 5 [(4, .int (nI n)), (0, .ref h), (1, .ref r), (3, .ref x)] := hl
    have hK := hB.1
    have hO := kr_obj hW hP.1 hP.2.1
    have hgr := hP.2.2.2.2.2.2.2.2.2.2.2.1
    have hse := hP.2.2.2.2.2.2.2.2.2.2.1
    have hxl : ¬ kr_L E x := hE.1 x hxS
    have hx1 : x ≠ h + 1 := fun q => hxl (by rw [q]; exact hP.2.2.2.2.2.2.2.2.1.1)
    have hx2 : x ≠ h + 2 := fun q => hxl (by rw [q]; exact hP.2.2.2.2.2.2.2.2.2.1.1)
    have hx4 : x ≠ h + 4 := fun q => hxl (by rw [q]; exact hgr.1)
    refine lv_iload hx hb d_Pr_power_23 (lv_at hl 0 rfl) ?_
    refine lv_if_lt hx hb d_Pr_power_25 rfl (fun hc => ?_) (fun hc => ?_)
    · exact absurd hc (nI_pos (by omega))
    · refine lv_aload_n hx hb d_Pr_power_28 rfl (lv_at hl 1 rfl) ?_
      refine lv_aload_n hx hb d_Pr_power_29 rfl (lv_at hl 1 rfl) ?_
      refine kq_get hx hb hts kt_F_Pr hown hK hO rfl 7 (by decide) kt_w68 rfl d_Pr_power_30 ?_
      refine lv_aload_n hx hb d_Pr_power_33 rfl (lv_at hl 1 rfl) ?_
      refine kq_get hx hb hts kt_F_Pr hown hK hO rfl 7 (by decide) kt_w68 rfl d_Pr_power_34 ?_
      refine lv_aload_n hx hb d_Pr_power_37 rfl (lv_at hl 1 rfl) ?_
      refine kq_get hx hb hts kt_F_Pr hown hK hO rfl 7 (by decide) kt_w68 rfl d_Pr_power_38 ?_
      refine kq_call (va_runV (As := [.ref (h + 4), .ref (h + 4), .ref (h + 4)]) (rest := []) ⟨hx, hb, hml, hown, hts⟩ (c_Pr_product l E h pa ga gw mm G w H hE hP hW (h + 4) (h + 4) (h + 4) hgr (Or.inl hgr) (Or.inl hgr)) (cwV 3 hts (kt_inV kt_w206 kt_w243 kt_w204 kt_w205 kt_w3) rfl rfl rfl (by decide +kernel) ⟨Nat.le_trans (Nat.le_of_ble_eq_true rfl) hRf, Nat.le_trans (Nat.le_of_ble_eq_true rfl) hRl⟩) (kq_preV (kr_st E) (hB) (kq_recv hB.1 hO rfl)) rfl rfl hl.1 rfl (lv_room (Nat.le_of_ble_eq_true rfl)) d_Pr_power_41 ⟨Nat.zero_le _, Nat.zero_le _⟩) (fun v9 H9 L9 hq9 hL9 => ?_)
      obtain ⟨rfl, w9, hW9, e9, ho9⟩ := hq9
      refine W.eq (g2 := F0 m 44 ls []) rfl ?_
      have hO9 := kr_obj hW9 hP.1 hP.2.1
      have hsx := kr_src hE hW9 hB (Or.inr hxS)
      rw [ho9 x hx4 hx1 hx2, ho x hx1 hx2 hx4] at hsx
      have hlc9 : ∀ q ∈ locs ++ L9, q.base = h + 1 ∨ q.base = h + 2 ∨ q.base = h + 3 ∨ q.base = h + 4 := t_lL (free := (fun q => q = h + 1 ∨ q = h + 2 ∨ q = h + 3 ∨ q = h + 4)) hlc (fun q hq => by rcases hL9 q hq with z | z | z <;> simp [z])
      have ho9' : ∀ q, q ≠ h + 1 → q ≠ h + 2 → q ≠ h + 4 → w9 q = v q := fun q q1 q2 q4 => by rw [ho9 q q4 q1 q2]; exact ho q q1 q2 q4
      refine lv_aload_n hx hb d_Pr_power_44 rfl (lv_at hl 3 rfl) ?_
      refine lv_iload hx hb d_Pr_power_45 (lv_at hl 0 rfl) ?_
      refine kq_call (va_runS (As := [.ref x, .int (nI n)]) (rest := []) ⟨hx, hb, hml, hown, hts⟩ (c_Wo_hasBit l H9 x (v x) n (by omega)) (va_cwS 2 hts (kt_inS kt_w246 kt_w244 kt_w245 kt_w6) rfl rfl rfl (by decide +kernel) ⟨Nat.le_trans (Nat.le_of_ble_eq_true rfl) hRf, Nat.le_trans (Nat.le_of_ble_eq_true rfl) hRl⟩) (kq_preS (kq_st_r) (hsx)) rfl rfl hl.1 rfl (lv_room (Nat.le_of_ble_eq_true rfl)) d_Pr_power_47 ⟨Nat.zero_le _, Nat.zero_le _⟩) (fun v8 H8 L8 hq8 hL8 => ?_)
      obtain ⟨rfl, e8⟩ := hq8
      rw [e8]
      clear e8
      refine W.eq (g2 := F0 m 50 ls [.int (kq_z (decide (v x / 2 ^ n % 2 = 1)))]) rfl ?_
      have hlc8 : ∀ q ∈ (locs ++ L9) ++ L8, q.base = h + 1 ∨ q.base = h + 2 ∨ q.base = h + 3 ∨ q.base = h + 4 := t_lL (free := (fun q => q = h + 1 ∨ q = h + 2 ∨ q = h + 3 ∨ q = h + 4)) hlc9 (fun q hq => (hL8 q hq).elim)
      refine lv_if_eq hx hb d_Pr_power_50 rfl (fun hc0 => ?_) (fun hc0 => ?_)
      · have h0 : v x / 2 ^ n % 2 = 0 := by
          have q := kq_z_eq.mp hc0
          omega
        refine lv_iinc (k := 0) (v := kq_dn n) hx hb d_Pr_power_69 hl rfl (kq_dn_dec n) (by decide) rfl (fun ls hl => ?_)
        have hl : lv_has ls 5 [(4, .int (kq_dn n)), (0, .ref h), (1, .ref r), (3, .ref x)] := hl
        refine lv_goto hx hb d_Pr_power_72 rfl ?_
        exact ih w9 H9 ls _ (by omega) hW9 (by rw [e9]; exact kp_pow0 h1 h0) ho9' hlc8 (lv_sub hl [0, 1, 2, 3] rfl)
      · have h0 : v x / 2 ^ n % 2 = 1 := kq_z_ne.mp hc0
        refine lv_aload_n hx hb d_Pr_power_53 rfl (lv_at hl 1 rfl) ?_
        refine lv_aload_n hx hb d_Pr_power_54 rfl (lv_at hl 1 rfl) ?_
        refine kq_get hx hb hts kt_F_Pr hown hK hO9 rfl 7 (by decide) kt_w68 rfl d_Pr_power_55 ?_
        refine lv_aload_n hx hb d_Pr_power_58 rfl (lv_at hl 1 rfl) ?_
        refine kq_get hx hb hts kt_F_Pr hown hK hO9 rfl 7 (by decide) kt_w68 rfl d_Pr_power_59 ?_
        refine lv_aload_n hx hb d_Pr_power_62 rfl (lv_at hl 1 rfl) ?_
        refine kq_get hx hb hts kt_F_Pr hown hK hO9 rfl 6 (by decide) kt_w67 rfl d_Pr_power_63 ?_
        refine kq_call (va_runV (As := [.ref (h + 4), .ref (h + 4), .ref (h + 3)]) (rest := []) ⟨hx, hb, hml, hown, hts⟩ (c_Pr_product l E h pa ga gw mm G w9 H9 hE hP hW9 (h + 4) (h + 4) (h + 3) hgr (Or.inl hgr) (Or.inl hse)) (cwV 3 hts (kt_inV kt_w206 kt_w243 kt_w204 kt_w205 kt_w3) rfl rfl rfl (by decide +kernel) ⟨Nat.le_trans (Nat.le_of_ble_eq_true rfl) hRf, Nat.le_trans (Nat.le_of_ble_eq_true rfl) hRl⟩) (kq_preV (kr_st E) (hB) (kq_recv hB.1 hO9 rfl)) rfl rfl hl.1 rfl (lv_room (Nat.le_of_ble_eq_true rfl)) d_Pr_power_66 ⟨Nat.zero_le _, Nat.zero_le _⟩) (fun v7 H7 L7 hq7 hL7 => ?_)
        obtain ⟨rfl, w7, hW7, e7, ho7⟩ := hq7
        refine W.eq (g2 := F0 m 69 ls []) rfl ?_
        refine lv_iinc (k := 0) (v := kq_dn n) hx hb d_Pr_power_69 hl rfl (kq_dn_dec n) (by decide) rfl (fun ls hl => ?_)
        have hl : lv_has ls 5 [(4, .int (kq_dn n)), (0, .ref h), (1, .ref r), (3, .ref x)] := hl
        refine lv_goto hx hb d_Pr_power_72 rfl ?_
        refine ih w7 H7 ls _ (by omega) hW7 ?_ (fun q q1 q2 q4 => by rw [ho7 q q4 q1 q2]; exact ho9' q q1 q2 q4) (t_lL (free := (fun q => q = h + 1 ∨ q = h + 2 ∨ q = h + 3 ∨ q = h + 4)) hlc8 (fun q hq => by rcases hL7 q hq with z | z | z <;> simp [z])) (lv_sub hl [0, 1, 2, 3] rfl)
        rw [e7, e9, ho9' (h + 3) (by omega) (by omega) (by omega), hsd]
        exact kp_pow1 h1 h0
end
set_option maxHeartbeats 4000000 in
set_option maxRecDepth 100000 in
theorem c_Pr_power (l : Launch) (E : kr_E) (A : Nat → Nat) (h pa ga gw mm G : Nat) (v : Nat → Nat) (H : Heap) (hE : kr_ok E) (hA : kr_A E A) (hP : kr_P E h pa ga gw mm G) (hW : kr_W E v H) (r a x : Nat) (hr : kr_out E r) (ha : kr_in E a) (hxS : kr_S E x) : Met l y_Pr_power w_Pr_power ({ frames := 3, cells := 0, slots := 0, locals := 75 }) (kq_P [.ref h, .ref r, .ref a, .ref x] H (kr_C E A)) (kq_Q (fun o H1 => o = none ∧ ∃ w : Nat → Nat, kr_W E w H1 ∧ w r = v a ^ v x % mm ∧ ∀ q, q ≠ r → q ≠ h + 1 → q ≠ h + 2 → q ≠ h + 3 → q ≠ h + 4 → w q = v q)) 0 0 (fun q => q = r ∨ q = h + 1 ∨ q = h + 2 ∨ q = h + 3 ∨ q = h + 4) := by
  refine Met.ofW (cc := b_Pr_power) (maxL := 5) (ret := none) (by decide) rfl ?_
  intro p e s m args below meth c s₁ B0 hml hv
  obtain ⟨rfl, hH, hC⟩ := hv
  have hx := B0.exec
  have hb := B0.bytes
  have hret := B0.returns
  have hts := atoms_spec (ws := w_Pr_power) B0.pre
  have hown : s.vm.findClass R_Pr = some m.cls := findClass_of_methodNamed B0.named
  have hlocks := B0.notSynchronized
  rw [hH]
  have hl := lv_entry ([.ref h, .ref r, .ref a, .ref x]) (n := 5) (Nat.le_of_ble_eq_true rfl)
  rw [lg_entry_eq]
  generalize (lg_sl ([.ref h, .ref r, .ref a, .ref x]) ++ List.replicate (5 - (lg_sl ([.ref h, .ref r, .ref a, .ref x])).length) Slot.unset).toArray = ls at hl ⊢
  have hl : lv_has ls 5 [(0, .ref h), (1, .ref r), (2, .ref a), (3, .ref x)] := hl
  have hB := hC.1
  have hT := kr_T hE hB
  have hK := hB.1
  have hO := kr_obj hW hP.1 hP.2.1
  have hse := hP.2.2.2.2.2.2.2.2.2.2.1
  have hgr := hP.2.2.2.2.2.2.2.2.2.2.2.1
  have hsa := kr_src hE hW hB ha
  have hla := kr_lt hE hW ha
  have hmm := hP.2.2.2.2.2.1.1
  have hxl : ¬ kr_L E x := hE.1 x hxS
  have hlx := kr_lt hE hW (Or.inr hxS)
  refine lv_aload_n hx hb d_Pr_power_0 rfl (lv_at hl 0 rfl) ?_
  refine kq_get hx hb hts kt_F_Pr hown hK hO rfl 6 (by decide) kt_w67 rfl d_Pr_power_1 ?_
  refine lv_aload_n hx hb d_Pr_power_4 rfl (lv_at hl 2 rfl) ?_
  refine kq_call (va_runS (As := [.ref (h + 3), .ref a]) (rest := []) ⟨hx, hb, hml, hown, hts⟩ (c_Wo_copy l (kr_c E) H (h + 3) a (v (h + 3)) (v a) (kr_row hW hse)) (va_cwS 2 hts (kt_inS kt_w222 kt_w220 kt_w221 kt_w6) rfl rfl rfl (by decide +kernel) ⟨Nat.le_of_ble_eq_true rfl, Nat.le_of_ble_eq_true rfl⟩) (kq_preS (kq_st_A.both kq_st_r) (⟨hT, hsa⟩)) rfl rfl hl.1 rfl (lv_room (Nat.le_of_ble_eq_true rfl)) d_Pr_power_5 ⟨Nat.zero_le _, Nat.zero_le _⟩) (fun v9 H9 L9 hq9 hL9 => ?_)
  obtain ⟨rfl, rfl⟩ := hq9
  refine W.eq (g2 := F0 m 8 ls []) rfl ?_
  have hW1 := kr_put hE hW hse hla
  have hO1 := kr_obj hW1 hP.1 hP.2.1
  have hs1 := kr_src hE hW1 hB (Or.inr hA.2.1.1)
  rw [kr_cst hW1 hA.2.1] at hs1
  refine lv_aload_n hx hb d_Pr_power_8 rfl (lv_at hl 0 rfl) ?_
  refine kq_get hx hb hts kt_F_Pr hown hK hO1 rfl 7 (by decide) kt_w68 rfl d_Pr_power_9 ?_
  refine kq_getsN hx hb (kr_zat hW1 hC.2.2.2.1) hown hC.2.1.1 d_Pr_power_12 ?_
  refine kq_call (va_runS (As := [.ref (h + 4), .ref (A 1)]) (rest := []) ⟨hx, hb, hml, hown, hts⟩ (c_Wo_copy l (kr_c E) _ (h + 4) (A 1) _ 1 (kr_row hW1 hgr)) (va_cwS 2 hts (kt_inS kt_w222 kt_w220 kt_w221 kt_w6) rfl rfl rfl (by decide +kernel) ⟨Nat.le_of_ble_eq_true rfl, Nat.le_of_ble_eq_true rfl⟩) (kq_preS (kq_st_A.both kq_st_r) (⟨hT, hs1⟩)) rfl rfl hl.1 rfl (lv_room (Nat.le_of_ble_eq_true rfl)) d_Pr_power_15 ⟨Nat.zero_le _, Nat.zero_le _⟩) (fun v8 H8 L8 hq8 hL8 => ?_)
  obtain ⟨rfl, rfl⟩ := hq8
  refine W.eq (g2 := F0 m 18 ls []) rfl ?_
  have hW2 := kr_put hE hW1 hgr (show 1 < kw_M 8 by decide +kernel)
  have hx3 : x ≠ h + 3 := fun q => hxl (by rw [q]; exact hse.1)
  have hx4 : x ≠ h + 4 := fun q => hxl (by rw [q]; exact hgr.1)
  have hvx : va_up (va_up v (h + 3) (v a)) (h + 4) 1 x = v x := by rw [kq_up_ne hx4, kq_up_ne hx3]
  refine lv_sipush (v := nI 255) hx hb d_Pr_power_18 (by decide) ?_
  refine lv_istore hx hb d_Pr_power_21 hl (by decide) rfl (fun ls hl => ?_)
  have hl : lv_has ls 5 [(4, .int (nI 255)), (0, .ref h), (1, .ref r), (2, .ref a), (3, .ref x)] := hl
  refine lp_Pr_power hx hb hts hown hml (Nat.le_of_ble_eq_true rfl) (Nat.le_of_ble_eq_true rfl) hE hP hB (v := va_up (va_up v (h + 3) (v a)) (h + 4) 1) (a0 := v a) hxS (by rw [kq_up_ne (by omega), kq_up_at]) (fun w3 H3 ls L3 hW3 h3 ho3 hL3 hl => ?_) 256 _ _ ls _ (Nat.le_refl 256) hW2 (by rw [kq_up_at, hvx, Nat.div_eq_of_lt (by rw [kw_M_8] at hlx; omega), Nat.pow_zero, Nat.mod_eq_of_lt (by omega)]) (fun _ _ _ _ => rfl) ?_ (lv_sub hl [0, 1, 2, 4] rfl)
  · have hO3 := kr_obj hW3 hP.1 hP.2.1
    have hsg := kr_src hE hW3 hB (Or.inl hgr)
    have hlg := kr_lt hE hW3 (Or.inl hgr)
    rw [hvx] at h3
    refine lv_aload_n hx hb d_Pr_power_75 rfl (lv_at hl 1 rfl) ?_
    refine lv_aload_n hx hb d_Pr_power_76 rfl (lv_at hl 0 rfl) ?_
    refine kq_get hx hb hts kt_F_Pr hown hK hO3 rfl 7 (by decide) kt_w68 rfl d_Pr_power_77 ?_
    refine kq_call (va_runS (As := [.ref r, .ref (h + 4)]) (rest := []) ⟨hx, hb, hml, hown, hts⟩ (c_Wo_copy l (kr_c E) H3 r (h + 4) (w3 r) (w3 (h + 4)) (kr_row hW3 hr)) (va_cwS 2 hts (kt_inS kt_w222 kt_w220 kt_w221 kt_w6) rfl rfl rfl (by decide +kernel) ⟨Nat.le_of_ble_eq_true rfl, Nat.le_of_ble_eq_true rfl⟩) (kq_preS (kq_st_A.both kq_st_r) (⟨hT, hsg⟩)) rfl rfl hl.1 rfl (lv_room (Nat.le_of_ble_eq_true rfl)) d_Pr_power_80 ⟨Nat.zero_le _, Nat.zero_le _⟩) (fun v7 H7 L7 hq7 hL7 => ?_)
    obtain ⟨rfl, rfl⟩ := hq7
    refine W.eq (g2 := F0 m 83 ls []) rfl ?_
    have hW4 := kr_put hE hW3 hr hlg
    have hlf : ∀ q ∈ L3 ++ L7, q.base = r ∨ q.base = h + 1 ∨ q.base = h + 2 ∨ q.base = h + 3 ∨ q.base = h + 4 := t_lL (free := (fun q => q = r ∨ q = h + 1 ∨ q = h + 2 ∨ q = h + 3 ∨ q = h + 4)) (fun q z => Or.inr (hL3 q z)) (fun q z => Or.inl (hL7 q z))
    refine W.vret hx hb hret (fun t ht _ => ⟨_, rfl, rfl, _, by rw [ht]; exact hW4, ?_, fun q q0 q1 q2 q3 q4 => ?_⟩) hlf d_Pr_power_83
    · rw [kq_up_at, h3]
    · rw [kq_up_ne q0, ho3 q q1 q2 q4, kq_up_ne q4, kq_up_ne q3]
  · exact t_lL (free := (fun q => q = h + 1 ∨ q = h + 2 ∨ q = h + 3 ∨ q = h + 4)) (t_lL (free := (fun q => q = h + 1 ∨ q = h + 2 ∨ q = h + 3 ∨ q = h + 4)) (fun q h => by cases h) (fun q z => Or.inr (Or.inr (Or.inl (hL9 q z))))) (fun q z => Or.inr (Or.inr (Or.inr (hL8 q z))))
theorem d_Pr_inverse_0 : decode b_Pr_inverse 0 = .ok (.aload_n 0, 1) := by decide +kernel
theorem d_Pr_inverse_1 : decode b_Pr_inverse 1 = .ok (.getfield 24, 3) := by decide +kernel
theorem d_Pr_inverse_4 : decode b_Pr_inverse 4 = .ok (.aload_n 2, 1) := by decide +kernel
theorem d_Pr_inverse_5 : decode b_Pr_inverse 5 = .ok (.invokestatic 71, 3) := by decide +kernel
theorem d_Pr_inverse_8 : decode b_Pr_inverse 8 = .ok (.aload_n 0, 1) := by decide +kernel
theorem d_Pr_inverse_9 : decode b_Pr_inverse 9 = .ok (.aload_n 0, 1) := by decide +kernel
theorem d_Pr_inverse_10 : decode b_Pr_inverse 10 = .ok (.getfield 24, 3) := by decide +kernel
theorem d_Pr_inverse_13 : decode b_Pr_inverse 13 = .ok (.invokevirtual 53, 3) := by decide +kernel
theorem d_Pr_inverse_16 : decode b_Pr_inverse 16 = .ok (.aload_n 0, 1) := by decide +kernel
theorem d_Pr_inverse_17 : decode b_Pr_inverse 17 = .ok (.getfield 24, 3) := by decide +kernel
theorem d_Pr_inverse_20 : decode b_Pr_inverse 20 = .ok (.invokestatic 86, 3) := by decide +kernel
theorem d_Pr_inverse_23 : decode b_Pr_inverse 23 = .ok (.ifCond .eq 5, 3) := by decide +kernel
theorem d_Pr_inverse_26 : decode b_Pr_inverse 26 = .ok (.iconst 0, 1) := by decide +kernel
theorem d_Pr_inverse_27 : decode b_Pr_inverse 27 = .ok (.ireturn, 1) := by decide +kernel
theorem d_Pr_inverse_28 : decode b_Pr_inverse 28 = .ok (.aload_n 0, 1) := by decide +kernel
theorem d_Pr_inverse_29 : decode b_Pr_inverse 29 = .ok (.aload_n 1, 1) := by decide +kernel
theorem d_Pr_inverse_30 : decode b_Pr_inverse 30 = .ok (.aload_n 0, 1) := by decide +kernel
theorem d_Pr_inverse_31 : decode b_Pr_inverse 31 = .ok (.getfield 24, 3) := by decide +kernel
theorem d_Pr_inverse_34 : decode b_Pr_inverse 34 = .ok (.aload_n 0, 1) := by decide +kernel
theorem d_Pr_inverse_35 : decode b_Pr_inverse 35 = .ok (.getfield 42, 3) := by decide +kernel
theorem d_Pr_inverse_38 : decode b_Pr_inverse 38 = .ok (.invokevirtual 90, 3) := by decide +kernel
theorem d_Pr_inverse_41 : decode b_Pr_inverse 41 = .ok (.iconst 1, 1) := by decide +kernel
theorem d_Pr_inverse_42 : decode b_Pr_inverse 42 = .ok (.ireturn, 1) := by decide +kernel
set_option maxHeartbeats 4000000 in
set_option maxRecDepth 100000 in
theorem c_Pr_inverse (l : Launch) (E : kr_E) (A : Nat → Nat) (h pa ga gw mm G : Nat) (v : Nat → Nat) (H : Heap) (hE : kr_ok E) (hA : kr_A E A) (hP : kr_P E h pa ga gw mm G) (hW : kr_W E v H) (r a : Nat) (hr : kr_out E r) (ha : kr_in E a) (hr5 : r ≠ h + 5) : Met l y_Pr_inverse w_Pr_inverse ({ frames := 4, cells := 0, slots := 0, locals := 99 }) (kq_P [.ref h, .ref r, .ref a] H (kr_C E A)) (kq_Q (fun o H1 => o = some (.int (kq_z (decide (¬ v a % mm = 0)))) ∧ ∃ w : Nat → Nat, kr_W E w H1 ∧ w r = (if v a % mm = 0 then v r else kf_inv mm (v a % mm)) ∧ ∀ q, q ≠ r → q ≠ h + 1 → q ≠ h + 2 → q ≠ h + 3 → q ≠ h + 4 → q ≠ h + 5 → w q = v q)) 0 0 (fun q => q = r ∨ q = h + 1 ∨ q = h + 2 ∨ q = h + 3 ∨ q = h + 4 ∨ q = h + 5) := by
  refine Met.ofW (cc := b_Pr_inverse) (maxL := 3) (ret := (some .boolean)) (by decide) rfl ?_
  intro p e s m args below meth c s₁ B0 hml hv
  obtain ⟨rfl, hH, hC⟩ := hv
  have hx := B0.exec
  have hb := B0.bytes
  have hret := B0.returns
  have hts := atoms_spec (ws := w_Pr_inverse) B0.pre
  have hown : s.vm.findClass R_Pr = some m.cls := findClass_of_methodNamed B0.named
  have hlocks := B0.notSynchronized
  rw [hH]
  have hl := lv_entry ([.ref h, .ref r, .ref a]) (n := 3) (Nat.le_of_ble_eq_true rfl)
  rw [lg_entry_eq]
  generalize (lg_sl ([.ref h, .ref r, .ref a]) ++ List.replicate (3 - (lg_sl ([.ref h, .ref r, .ref a])).length) Slot.unset).toArray = ls at hl ⊢
  have hl : lv_has ls 3 [(0, .ref h), (1, .ref r), (2, .ref a)] := hl
  have hB := hC.1
  have hT := kr_T hE hB
  have hK := hB.1
  have hO := kr_obj hW hP.1 hP.2.1
  have htr := hP.2.2.2.2.2.2.2.2.2.2.2.2
  have hsa := kr_src hE hW hB ha
  have hla := kr_lt hE hW ha
  refine lv_aload_n hx hb d_Pr_inverse_0 rfl (lv_at hl 0 rfl) ?_
  refine kq_get hx hb hts kt_F_Pr hown hK hO rfl 8 (by decide) kt_w69 rfl d_Pr_inverse_1 ?_
  refine lv_aload_n hx hb d_Pr_inverse_4 rfl (lv_at hl 2 rfl) ?_
  refine kq_call (va_runS (As := [.ref (h + 5), .ref a]) (rest := []) ⟨hx, hb, hml, hown, hts⟩ (c_Wo_copy l (kr_c E) H (h + 5) a (v (h + 5)) (v a) (kr_row hW htr)) (va_cwS 2 hts (kt_inS kt_w222 kt_w220 kt_w221 kt_w6) rfl rfl rfl (by decide +kernel) ⟨Nat.le_of_ble_eq_true rfl, Nat.le_of_ble_eq_true rfl⟩) (kq_preS (kq_st_A.both kq_st_r) (⟨hT, hsa⟩)) rfl rfl hl.1 rfl (lv_room (Nat.le_of_ble_eq_true rfl)) d_Pr_inverse_5 ⟨Nat.zero_le _, Nat.zero_le _⟩) (fun v9 H9 L9 hq9 hL9 => ?_)
  obtain ⟨rfl, rfl⟩ := hq9
  refine W.eq (g2 := F0 m 8 ls []) rfl ?_
  have hW1 := kr_put hE hW htr hla
  have hO1 := kr_obj hW1 hP.1 hP.2.1
  refine lv_aload_n hx hb d_Pr_inverse_8 rfl (lv_at hl 0 rfl) ?_
  refine lv_aload_n hx hb d_Pr_inverse_9 rfl (lv_at hl 0 rfl) ?_
  refine kq_get hx hb hts kt_F_Pr hown hK hO1 rfl 8 (by decide) kt_w69 rfl d_Pr_inverse_10 ?_
  refine kq_call (va_runV (As := [.ref (h + 5)]) (rest := []) ⟨hx, hb, hml, hown, hts⟩ (c_Pr_trim l E h pa ga gw mm G _ _ hE hP hW1 (h + 5) htr) (cwV 1 hts (kt_inV kt_w184 kt_w181 kt_w182 kt_w183 kt_w3) rfl rfl rfl (by decide +kernel) ⟨Nat.le_of_ble_eq_true rfl, Nat.le_of_ble_eq_true rfl⟩) (kq_preV (kr_st E) (hB) (kq_recv hB.1 hO1 rfl)) rfl rfl hl.1 rfl (lv_room (Nat.le_of_ble_eq_true rfl)) d_Pr_inverse_13 ⟨Nat.zero_le _, Nat.zero_le _⟩) (fun v8 H8 L8 hq8 hL8 => ?_)
  obtain ⟨rfl, hW2⟩ := hq8
  refine W.eq (g2 := F0 m 16 ls []) rfl ?_
  have hO2 := kr_obj hW2 hP.1 hP.2.1
  have hst := kr_src hE hW2 hB (Or.inl htr)
  have hlt := kr_lt hE hW2 (Or.inl htr)
  have hvt : va_up (va_up v (h + 5) (v a)) (h + 5) (va_up v (h + 5) (v a) (h + 5) % mm) (h + 5) = v a % mm := by rw [kq_up_at, kq_up_at]
  rw [hvt] at hst hlt
  have ho2 : ∀ q, q ≠ h + 5 → va_up (va_up v (h + 5) (v a)) (h + 5) (va_up v (h + 5) (v a) (h + 5) % mm) q = v q := fun q hq => by rw [kq_up_ne hq, kq_up_ne hq]
  have hl2 : ∀ q ∈ (([] : List Loc) ++ L9) ++ L8, q.base = h + 5 := t_lL (free := fun q => q = h + 5) (t_lL (free := fun q => q = h + 5) (fun q h => by cases h) hL9) hL8
  generalize va_up (va_up v (h + 5) (v a)) (h + 5) (va_up v (h + 5) (v a) (h + 5) % mm) = v2 at *
  refine lv_aload_n hx hb d_Pr_inverse_16 rfl (lv_at hl 0 rfl) ?_
  refine kq_get hx hb hts kt_F_Pr hown hK hO2 rfl 8 (by decide) kt_w69 rfl d_Pr_inverse_17 ?_
  refine kq_call (va_runS (As := [.ref (h + 5)]) (rest := []) ⟨hx, hb, hml, hown, hts⟩ (c_Wo_isZero l H8 (h + 5) (v a % mm) hlt) (va_cwS 1 hts (kt_inS kt_w236 kt_w234 kt_w235 kt_w6) rfl rfl rfl (by decide +kernel) ⟨Nat.le_of_ble_eq_true rfl, Nat.le_of_ble_eq_true rfl⟩) (kq_preS (kq_st_r) (hst)) rfl rfl hl.1 rfl (lv_room (Nat.le_of_ble_eq_true rfl)) d_Pr_inverse_20 ⟨Nat.zero_le _, Nat.zero_le _⟩) (fun v7 H7 L7 hq7 hL7 => ?_)
  obtain ⟨rfl, e7⟩ := hq7
  rw [e7]
  clear e7
  refine W.eq (g2 := F0 m 23 ls [.int (kq_z (decide (v a % mm = 0)))]) rfl ?_
  refine lv_if_eq hx hb d_Pr_inverse_23 rfl (fun hc => ?_) (fun hc => ?_)
  · have hz : ¬ v a % mm = 0 := kq_z_eq.mp hc
    have hip := hP.2.2.2.2.2.2.2.1
    refine lv_aload_n hx hb d_Pr_inverse_28 rfl (lv_at hl 0 rfl) ?_
    refine lv_aload_n hx hb d_Pr_inverse_29 rfl (lv_at hl 1 rfl) ?_
    refine lv_aload_n hx hb d_Pr_inverse_30 rfl (lv_at hl 0 rfl) ?_
    refine kq_get hx hb hts kt_F_Pr hown hK hO2 rfl 8 (by decide) kt_w69 rfl d_Pr_inverse_31 ?_
    refine lv_aload_n hx hb d_Pr_inverse_34 rfl (lv_at hl 0 rfl) ?_
    refine kq_get hx hb hts kt_F_Pr hown hK hO2 rfl 3 (by decide) kt_w64 rfl d_Pr_inverse_35 ?_
    refine kq_call (va_runV (As := [.ref r, .ref (h + 5), .ref (h + 6)]) (rest := []) ⟨hx, hb, hml, hown, hts⟩ (c_Pr_power l E A h pa ga gw mm G v2 H8 hE hA hP hW2 r (h + 5) (h + 6) hr (Or.inl htr) hip.1) (cwV 3 hts (kt_inV kt_w240 kt_w237 kt_w238 kt_w239 kt_w3) rfl rfl rfl (by decide +kernel) ⟨Nat.le_of_ble_eq_true rfl, Nat.le_of_ble_eq_true rfl⟩) (kq_p2V (kr_C_s2 E A) (hC) (kq_recv hB.1 hO2 rfl)) rfl rfl hl.1 rfl (lv_room (Nat.le_of_ble_eq_true rfl)) d_Pr_inverse_38 ⟨Nat.zero_le _, Nat.zero_le _⟩) (fun v6 H6 L6 hq6 hL6 => ?_)
    obtain ⟨rfl, w6, hW6, e6, ho6⟩ := hq6
    refine W.eq (g2 := F0 m 41 ls []) rfl ?_
    refine lv_iconst (v := nI 1) hx hb d_Pr_inverse_41 (by decide) ?_
    refine W.zret hx hb hret rfl (fun t ht _ => ⟨_, rfl, by rw [kq_z_t hz], w6, by rw [ht]; exact hW6, ?_, fun q q0 q1 q2 q3 q4 q5 => ?_⟩) (t_lL (free := (fun q => q = r ∨ q = h + 1 ∨ q = h + 2 ∨ q = h + 3 ∨ q = h + 4 ∨ q = h + 5)) (t_lL (free := (fun q => q = r ∨ q = h + 1 ∨ q = h + 2 ∨ q = h + 3 ∨ q = h + 4 ∨ q = h + 5)) (fun q z => by simp [hl2 q z]) (fun q z => (hL7 q z).elim)) (fun q z => by rcases hL6 q z with z | z | z | z | z <;> simp [z])) d_Pr_inverse_42
    · rw [if_neg hz, e6, hvt, kr_cst hW2 hip]
      rfl
    · rw [ho6 q q0 q1 q2 q3 q4]
      exact ho2 q q5
  · have hz : v a % mm = 0 := kq_z_ne.mp hc
    refine lv_iconst (v := nI 0) hx hb d_Pr_inverse_26 (by decide) ?_
    refine W.zret hx hb hret rfl (fun t ht _ => ⟨_, rfl, by rw [kq_z_f (fun q => q hz)], v2, by rw [ht]; exact hW2, ?_, fun q q0 q1 q2 q3 q4 q5 => ho2 q q5⟩) (t_lL (free := (fun q => q = r ∨ q = h + 1 ∨ q = h + 2 ∨ q = h + 3 ∨ q = h + 4 ∨ q = h + 5)) (fun q z => by simp [hl2 q z]) (fun q z => (hL7 q z).elim)) d_Pr_inverse_27
    rw [if_pos hz]
    exact ho2 r hr5
end
section
/-! KeyCurve$Curve: its world; start, twice, measureLine, followLine (own rows). -/
/-- a Curve's object at hc over the Prime at h: its rows behind it -/
def kr_V (E : kr_E) (hc h : Nat) : Prop := va_P (kr_D E) kr_cl [(hc, .inr (0, [.ref h, .ref (hc + 1), .ref (hc + 2), .ref (hc + 3), .ref (hc + 4), .ref (hc + 5), .ref (hc + 6), .ref (hc + 7), .ref (hc + 8), .ref (hc + 9), .ref (hc + 10), .ref (hc + 11)]))] (kr_H E) ∧ ¬ kr_L E hc ∧ (∀ k, 1 ≤ k → k ≤ 11 → kr_out E (hc + k)) ∧ h + 6 < hc
/-- the rows that the Curve's methods write -/
def kr_fr (h hc : Nat) : Nat → Prop := fun q => (h + 1 ≤ q ∧ q ≤ h + 5) ∨ (hc + 1 ≤ q ∧ q ≤ hc + 11)
theorem d_Cu_start_0 : decode b_Cu_start 0 = .ok (.aload_n 0, 1) := by decide +kernel
theorem d_Cu_start_1 : decode b_Cu_start 1 = .ok (.getfield 9, 3) := by decide +kernel
theorem d_Cu_start_4 : decode b_Cu_start 4 = .ok (.getstatic 105, 3) := by decide +kernel
theorem d_Cu_start_7 : decode b_Cu_start 7 = .ok (.invokestatic 49, 3) := by decide +kernel
theorem d_Cu_start_10 : decode b_Cu_start 10 = .ok (.aload_n 0, 1) := by decide +kernel
theorem d_Cu_start_11 : decode b_Cu_start 11 = .ok (.getfield 15, 3) := by decide +kernel
theorem d_Cu_start_14 : decode b_Cu_start 14 = .ok (.getstatic 105, 3) := by decide +kernel
theorem d_Cu_start_17 : decode b_Cu_start 17 = .ok (.invokestatic 49, 3) := by decide +kernel
theorem d_Cu_start_20 : decode b_Cu_start 20 = .ok (.iconst 0, 1) := by decide +kernel
theorem d_Cu_start_21 : decode b_Cu_start 21 = .ok (.istore_n 1, 1) := by decide +kernel
theorem d_Cu_start_22 : decode b_Cu_start 22 = .ok (.iload_n 1, 1) := by decide +kernel
theorem d_Cu_start_23 : decode b_Cu_start 23 = .ok (.bipush 8, 2) := by decide +kernel
theorem d_Cu_start_25 : decode b_Cu_start 25 = .ok (.if_icmp .ge 16, 3) := by decide +kernel
theorem d_Cu_start_28 : decode b_Cu_start 28 = .ok (.aload_n 0, 1) := by decide +kernel
theorem d_Cu_start_29 : decode b_Cu_start 29 = .ok (.getfield 18, 3) := by decide +kernel
theorem d_Cu_start_32 : decode b_Cu_start 32 = .ok (.iload_n 1, 1) := by decide +kernel
theorem d_Cu_start_33 : decode b_Cu_start 33 = .ok (.lconst 0, 1) := by decide +kernel
theorem d_Cu_start_34 : decode b_Cu_start 34 = .ok (.lastore, 1) := by decide +kernel
theorem d_Cu_start_35 : decode b_Cu_start 35 = .ok (.iinc 1 1, 3) := by decide +kernel
theorem d_Cu_start_38 : decode b_Cu_start 38 = .ok (.goto (-16), 3) := by decide +kernel
theorem d_Cu_start_41 : decode b_Cu_start 41 = .ok (.return_, 1) := by decide +kernel
section
variable {p : Program} {l : Launch} {e : Env} {R : Room} {s : State} {m : MethodId} {args : Array Value} {below : List Frame} {meth : Method} {c : Code} {cells slots : Nat} {Q : State → Prop}
set_option maxHeartbeats 4000000 in
set_option maxRecDepth 100000 in
theorem lp_Cu_start (hx : p.tables.exec = Jvm.exec) (hb : c.code = b_Cu_start) (hts : ∀ w ∈ w_Cu_start, w.before args s = true) (hown : s.vm.findClass R_Cu = some m.cls) {E : kr_E} {A : Nat → Nat} {h pa ga gw G hc : Nat} (hE : kr_ok E) (hA : kr_A E A) (hP : kr_P E h pa ga gw kP G) (hV : kr_V E hc h) (hC : kr_C E A s) {v : Nat → Nat}
    (kk : ∀ (w : Nat → Nat) (H : Heap) (ls : Array Slot) (locs : List Loc), kr_W E w H → w (hc + 3) = 0 → (∀ q, q ≠ hc + 3 → w q = v q) → (∀ q ∈ locs, kr_fr h hc q.base) → W p l e R s m args below meth c H locs 0 0 Q (F0 m 41 ls [])) :
    ∀ (n i : Nat) (w : Nat → Nat) (H : Heap) (ls : Array Slot) (locs : List Loc), i + n = 8 → kr_W E w H → w (hc + 3) % kw_M i = 0 → (∀ q, q ≠ hc + 3 → w q = v q) → (∀ q ∈ locs, kr_fr h hc q.base) → lv_has ls 2 [(1, .int (nI i)), (0, .ref hc)] → W p l e R s m args below meth c H locs 0 0 Q (F0 m 22 ls []) := by
  intro n
  induction n with
  | zero =>
    intro i w H ls locs hn hW h1 ho hlc hl
    obtain rfl : i = 8 := by omega
    refine lv_iload_n hx hb d_Cu_start_22 rfl (lv_at hl 0 rfl) ?_
    refine lv_bipush (v := nI 8) hx hb d_Cu_start_23 (by decide) ?_
    refine lv_icmp_ge hx hb d_Cu_start_25 rfl (fun hcc => ?_) (fun hcc => ?_)
    · rw [Nat.mod_eq_of_lt (kr_lt hE hW (Or.inl (hV.2.2.1 3 (by decide) (by decide))))] at h1
      exact kk w H ls locs hW h1 ho hlc
    · exact absurd (nI_le (Nat.le_refl 8) (by decide)) hcc
  | succ n ih =>
    intro i w H ls locs hn hW h1 ho hlc hl
    have hi : i < 8 := by omega
    have hK := hC.1.1
    have hT := kr_T hE hC.1
    have h3 := hV.2.2.1 3 (by decide) (by decide)
    have hO := kr_obj hW hV.1 hV.2.1
    have hW1 := kr_put hE hW h3 (kw_s_lt (kr_lt hE hW (Or.inl h3)) hi (show 0 < 4294967296 by decide))
    refine lv_iload_n hx hb d_Cu_start_22 rfl (lv_at hl 0 rfl) ?_
    refine lv_bipush (v := nI 8) hx hb d_Cu_start_23 (by decide) ?_
    refine lv_icmp_ge hx hb d_Cu_start_25 rfl (fun hcc => ?_) (fun hcc => ?_)
    · exact absurd hcc (nI_ge hi (by decide))
    · refine lv_aload_n hx hb d_Cu_start_28 rfl (lv_at hl 1 rfl) ?_
      refine kq_get hx hb hts kt_F_Cu hown hK hO rfl 3 (by decide) kt_w102 rfl d_Cu_start_29 ?_
      refine lv_iload_n hx hb d_Cu_start_32 rfl (lv_at hl 0 rfl) ?_
      refine lv_lconst (v := lN 0) hx hb d_Cu_start_33 (by decide) ?_
      refine kq_last hx hb (hT) (kr_row hW h3) (hi) (by decide) ((by decide)) d_Cu_start_34 ?_
      refine lv_iinc (k := 0) (v := nI (i + 1)) hx hb d_Cu_start_35 hl rfl (kq_inc i) (by decide) rfl (fun ls hl => ?_)
      have hl : lv_has ls 2 [(1, .int (nI (i + 1))), (0, .ref hc)] := hl
      refine lv_goto hx hb d_Cu_start_38 rfl ?_
      refine ih (i + 1) _ _ ls _ (by omega) hW1 ?_ (fun q hq => by rw [kq_up_ne hq]; exact ho q hq) (t_lc (free := kr_fr h hc) hlc (by unfold kr_fr; omega)) (lv_sub hl [0, 1] rfl)
      rw [kq_up_at, kw_s_lo _ _ _ (by decide), h1]
      rfl
end
set_option maxHeartbeats 4000000 in
set_option maxRecDepth 100000 in
theorem c_Cu_start (l : Launch) (E : kr_E) (A : Nat → Nat) (h pa ga gw G hc : Nat) (v : Nat → Nat) (H : Heap) (hE : kr_ok E) (hA : kr_A E A) (hP : kr_P E h pa ga gw kP G) (hV : kr_V E hc h) (hW : kr_W E v H) : Met l y_Cu_start w_Cu_start ({ frames := 2, cells := 0, slots := 0, locals := 41 }) (kq_P [.ref hc] H (kr_C E A)) (kq_Q (fun o H1 => o = none ∧ ∃ w : Nat → Nat, kr_W E w H1 ∧ w (hc + 3) = 0 ∧ ∀ q, ¬ kr_fr h hc q → w q = v q)) 0 0 (kr_fr h hc) := by
  refine Met.ofW (cc := b_Cu_start) (maxL := 2) (ret := none) (by decide) rfl ?_
  intro p e s m args below meth c s₁ B0 hml hv
  obtain ⟨rfl, hH, hC⟩ := hv
  have hx := B0.exec
  have hb := B0.bytes
  have hret := B0.returns
  have hts := atoms_spec (ws := w_Cu_start) B0.pre
  have hown : s.vm.findClass R_Cu = some m.cls := findClass_of_methodNamed B0.named
  have hlocks := B0.notSynchronized
  rw [hH]
  have hl := lv_entry ([.ref hc]) (n := 2) (Nat.le_of_ble_eq_true rfl)
  rw [lg_entry_eq]
  generalize (lg_sl ([.ref hc]) ++ List.replicate (2 - (lg_sl ([.ref hc])).length) Slot.unset).toArray = ls at hl ⊢
  have hl : lv_has ls 2 [(0, .ref hc)] := hl
  have hB := hC.1
  have hT := kr_T hE hB
  have hK := hB.1
  have hhc := hV.2.2.2
  have hlc0 : ∀ q ∈ ([] : List Loc), kr_fr h hc q.base := fun q h => by cases h
  have h1 := hV.2.2.1 1 (by decide) (by decide)
  have h2 := hV.2.2.1 2 (by decide) (by decide)
  have hO := kr_obj hW hV.1 hV.2.1
  have hs1 := kr_src hE hW hB (Or.inr hA.2.1.1)
  rw [kr_cst hW hA.2.1] at hs1
  refine lv_aload_n hx hb d_Cu_start_0 rfl (lv_at hl 0 rfl) ?_
  refine kq_get hx hb hts kt_F_Cu hown hK hO rfl 1 (by decide) kt_w100 rfl d_Cu_start_1 ?_
  refine kq_getsN hx hb (kr_zat hW hC.2.2.2.1) hown hC.2.1.2.2.2.2 d_Cu_start_4 ?_
  refine kq_call (va_runS (As := [.ref (hc + 1), .ref (A 1)]) (rest := []) ⟨hx, hb, hml, hown, hts⟩ (c_Wo_copy l (kr_c E) H (hc + 1) (A 1) (v (hc + 1)) 1 (kr_row hW h1)) (va_cwS 2 hts (kt_inS kt_w222 kt_w255 kt_w221 kt_w6) rfl rfl rfl (by decide +kernel) ⟨Nat.le_of_ble_eq_true rfl, Nat.le_of_ble_eq_true rfl⟩) (kq_preS (kq_st_A.both kq_st_r) (⟨hT, hs1⟩)) rfl rfl hl.1 rfl (lv_room (Nat.le_of_ble_eq_true rfl)) d_Cu_start_7 ⟨Nat.zero_le _, Nat.zero_le _⟩) (fun v9 H9 L9 hq9 hL9 => ?_)
  obtain ⟨rfl, rfl⟩ := hq9
  refine W.eq (g2 := F0 m 10 ls []) rfl ?_
  have hW1 := kr_put hE hW h1 (show 1 < kw_M 8 by decide +kernel)
  have hO1 := kr_obj hW1 hV.1 hV.2.1
  have hs2 := kr_src hE hW1 hB (Or.inr hA.2.1.1)
  rw [kr_cst hW1 hA.2.1] at hs2
  refine lv_aload_n hx hb d_Cu_start_10 rfl (lv_at hl 0 rfl) ?_
  refine kq_get hx hb hts kt_F_Cu hown hK hO1 rfl 2 (by decide) kt_w101 rfl d_Cu_start_11 ?_
  refine kq_getsN hx hb (kr_zat hW1 hC.2.2.2.1) hown hC.2.1.2.2.2.2 d_Cu_start_14 ?_
  refine kq_call (va_runS (As := [.ref (hc + 2), .ref (A 1)]) (rest := []) ⟨hx, hb, hml, hown, hts⟩ (c_Wo_copy l (kr_c E) _ (hc + 2) (A 1) _ 1 (kr_row hW1 h2)) (va_cwS 2 hts (kt_inS kt_w222 kt_w255 kt_w221 kt_w6) rfl rfl rfl (by decide +kernel) ⟨Nat.le_of_ble_eq_true rfl, Nat.le_of_ble_eq_true rfl⟩) (kq_preS (kq_st_A.both kq_st_r) (⟨hT, hs2⟩)) rfl rfl hl.1 rfl (lv_room (Nat.le_of_ble_eq_true rfl)) d_Cu_start_17 ⟨Nat.zero_le _, Nat.zero_le _⟩) (fun v8 H8 L8 hq8 hL8 => ?_)
  obtain ⟨rfl, rfl⟩ := hq8
  refine W.eq (g2 := F0 m 20 ls []) rfl ?_
  have hW2 := kr_put hE hW1 h2 (show 1 < kw_M 8 by decide +kernel)
  refine lv_iconst (v := nI 0) hx hb d_Cu_start_20 (by decide) ?_
  refine lv_istore_n hx hb d_Cu_start_21 rfl hl (by decide) rfl (fun ls hl => ?_)
  have hl : lv_has ls 2 [(1, .int (nI 0)), (0, .ref hc)] := hl
  refine lp_Cu_start hx hb hts hown hE hA hP hV hC (v := va_up (va_up v (hc + 1) 1) (hc + 2) 1) (fun w3 H3 ls L3 hW3 h3 ho3 hL3 => ?_) 8 0 _ _ ls _ rfl hW2 (by rw [kw_M_0, Nat.mod_one]) (fun _ _ => rfl) (t_lL (free := kr_fr h hc) (t_lL (free := kr_fr h hc) hlc0 (fun q z => by rw [hL9 q z]; unfold kr_fr; omega)) (fun q z => by rw [hL8 q z]; unfold kr_fr; omega)) (lv_sub hl [0, 1] rfl)
  refine W.vret hx hb hret (fun t ht _ => ⟨_, rfl, rfl, w3, by rw [ht]; exact hW3, h3, fun q hq => ?_⟩) hL3 d_Cu_start_41
  unfold kr_fr at hq
  rw [ho3 q (by omega), kq_up_ne (by omega), kq_up_ne (by omega)]
theorem d_Cu_twice_0 : decode b_Cu_twice 0 = .ok (.aload_n 0, 1) := by decide +kernel
theorem d_Cu_twice_1 : decode b_Cu_twice 1 = .ok (.getfield 18, 3) := by decide +kernel
theorem d_Cu_twice_4 : decode b_Cu_twice 4 = .ok (.invokestatic 126, 3) := by decide +kernel
theorem d_Cu_twice_7 : decode b_Cu_twice 7 = .ok (.ifCond .eq 4, 3) := by decide +kernel
theorem d_Cu_twice_10 : decode b_Cu_twice 10 = .ok (.return_, 1) := by decide +kernel
theorem d_Cu_twice_11 : decode b_Cu_twice 11 = .ok (.aload_n 0, 1) := by decide +kernel
theorem d_Cu_twice_12 : decode b_Cu_twice 12 = .ok (.getfield 45, 3) := by decide +kernel
theorem d_Cu_twice_15 : decode b_Cu_twice 15 = .ok (.aload_n 0, 1) := by decide +kernel
theorem d_Cu_twice_16 : decode b_Cu_twice 16 = .ok (.getfield 18, 3) := by decide +kernel
theorem d_Cu_twice_19 : decode b_Cu_twice 19 = .ok (.aload_n 0, 1) := by decide +kernel
theorem d_Cu_twice_20 : decode b_Cu_twice 20 = .ok (.getfield 15, 3) := by decide +kernel
theorem d_Cu_twice_23 : decode b_Cu_twice 23 = .ok (.aload_n 0, 1) := by decide +kernel
theorem d_Cu_twice_24 : decode b_Cu_twice 24 = .ok (.getfield 18, 3) := by decide +kernel
theorem d_Cu_twice_27 : decode b_Cu_twice 27 = .ok (.invokevirtual 68, 3) := by decide +kernel
theorem d_Cu_twice_30 : decode b_Cu_twice 30 = .ok (.aload_n 0, 1) := by decide +kernel
theorem d_Cu_twice_31 : decode b_Cu_twice 31 = .ok (.getfield 45, 3) := by decide +kernel
theorem d_Cu_twice_34 : decode b_Cu_twice 34 = .ok (.aload_n 0, 1) := by decide +kernel
theorem d_Cu_twice_35 : decode b_Cu_twice 35 = .ok (.getfield 18, 3) := by decide +kernel
theorem d_Cu_twice_38 : decode b_Cu_twice 38 = .ok (.aload_n 0, 1) := by decide +kernel
theorem d_Cu_twice_39 : decode b_Cu_twice 39 = .ok (.getfield 18, 3) := by decide +kernel
theorem d_Cu_twice_42 : decode b_Cu_twice 42 = .ok (.aload_n 0, 1) := by decide +kernel
theorem d_Cu_twice_43 : decode b_Cu_twice 43 = .ok (.getfield 18, 3) := by decide +kernel
theorem d_Cu_twice_46 : decode b_Cu_twice 46 = .ok (.invokevirtual 102, 3) := by decide +kernel
theorem d_Cu_twice_49 : decode b_Cu_twice 49 = .ok (.aload_n 0, 1) := by decide +kernel
theorem d_Cu_twice_50 : decode b_Cu_twice 50 = .ok (.getfield 45, 3) := by decide +kernel
theorem d_Cu_twice_53 : decode b_Cu_twice 53 = .ok (.aload_n 0, 1) := by decide +kernel
theorem d_Cu_twice_54 : decode b_Cu_twice 54 = .ok (.getfield 27, 3) := by decide +kernel
theorem d_Cu_twice_57 : decode b_Cu_twice 57 = .ok (.aload_n 0, 1) := by decide +kernel
theorem d_Cu_twice_58 : decode b_Cu_twice 58 = .ok (.getfield 15, 3) := by decide +kernel
theorem d_Cu_twice_61 : decode b_Cu_twice 61 = .ok (.aload_n 0, 1) := by decide +kernel
theorem d_Cu_twice_62 : decode b_Cu_twice 62 = .ok (.getfield 15, 3) := by decide +kernel
theorem d_Cu_twice_65 : decode b_Cu_twice 65 = .ok (.invokevirtual 68, 3) := by decide +kernel
theorem d_Cu_twice_68 : decode b_Cu_twice 68 = .ok (.aload_n 0, 1) := by decide +kernel
theorem d_Cu_twice_69 : decode b_Cu_twice 69 = .ok (.getfield 45, 3) := by decide +kernel
theorem d_Cu_twice_72 : decode b_Cu_twice 72 = .ok (.aload_n 0, 1) := by decide +kernel
theorem d_Cu_twice_73 : decode b_Cu_twice 73 = .ok (.getfield 33, 3) := by decide +kernel
theorem d_Cu_twice_76 : decode b_Cu_twice 76 = .ok (.aload_n 0, 1) := by decide +kernel
theorem d_Cu_twice_77 : decode b_Cu_twice 77 = .ok (.getfield 9, 3) := by decide +kernel
theorem d_Cu_twice_80 : decode b_Cu_twice 80 = .ok (.aload_n 0, 1) := by decide +kernel
theorem d_Cu_twice_81 : decode b_Cu_twice 81 = .ok (.getfield 27, 3) := by decide +kernel
theorem d_Cu_twice_84 : decode b_Cu_twice 84 = .ok (.invokevirtual 68, 3) := by decide +kernel
theorem d_Cu_twice_87 : decode b_Cu_twice 87 = .ok (.aload_n 0, 1) := by decide +kernel
theorem d_Cu_twice_88 : decode b_Cu_twice 88 = .ok (.getfield 45, 3) := by decide +kernel
theorem d_Cu_twice_91 : decode b_Cu_twice 91 = .ok (.aload_n 0, 1) := by decide +kernel
theorem d_Cu_twice_92 : decode b_Cu_twice 92 = .ok (.getfield 33, 3) := by decide +kernel
theorem d_Cu_twice_95 : decode b_Cu_twice 95 = .ok (.aload_n 0, 1) := by decide +kernel
theorem d_Cu_twice_96 : decode b_Cu_twice 96 = .ok (.getfield 33, 3) := by decide +kernel
theorem d_Cu_twice_99 : decode b_Cu_twice 99 = .ok (.aload_n 0, 1) := by decide +kernel
theorem d_Cu_twice_100 : decode b_Cu_twice 100 = .ok (.getfield 33, 3) := by decide +kernel
theorem d_Cu_twice_103 : decode b_Cu_twice 103 = .ok (.invokevirtual 102, 3) := by decide +kernel
theorem d_Cu_twice_106 : decode b_Cu_twice 106 = .ok (.aload_n 0, 1) := by decide +kernel
theorem d_Cu_twice_107 : decode b_Cu_twice 107 = .ok (.getfield 45, 3) := by decide +kernel
theorem d_Cu_twice_110 : decode b_Cu_twice 110 = .ok (.aload_n 0, 1) := by decide +kernel
theorem d_Cu_twice_111 : decode b_Cu_twice 111 = .ok (.getfield 33, 3) := by decide +kernel
theorem d_Cu_twice_114 : decode b_Cu_twice 114 = .ok (.aload_n 0, 1) := by decide +kernel
theorem d_Cu_twice_115 : decode b_Cu_twice 115 = .ok (.getfield 33, 3) := by decide +kernel
theorem d_Cu_twice_118 : decode b_Cu_twice 118 = .ok (.aload_n 0, 1) := by decide +kernel
theorem d_Cu_twice_119 : decode b_Cu_twice 119 = .ok (.getfield 33, 3) := by decide +kernel
theorem d_Cu_twice_122 : decode b_Cu_twice 122 = .ok (.invokevirtual 102, 3) := by decide +kernel
theorem d_Cu_twice_125 : decode b_Cu_twice 125 = .ok (.aload_n 0, 1) := by decide +kernel
theorem d_Cu_twice_126 : decode b_Cu_twice 126 = .ok (.getfield 45, 3) := by decide +kernel
theorem d_Cu_twice_129 : decode b_Cu_twice 129 = .ok (.aload_n 0, 1) := by decide +kernel
theorem d_Cu_twice_130 : decode b_Cu_twice 130 = .ok (.getfield 21, 3) := by decide +kernel
theorem d_Cu_twice_133 : decode b_Cu_twice 133 = .ok (.aload_n 0, 1) := by decide +kernel
theorem d_Cu_twice_134 : decode b_Cu_twice 134 = .ok (.getfield 9, 3) := by decide +kernel
theorem d_Cu_twice_137 : decode b_Cu_twice 137 = .ok (.aload_n 0, 1) := by decide +kernel
theorem d_Cu_twice_138 : decode b_Cu_twice 138 = .ok (.getfield 9, 3) := by decide +kernel
theorem d_Cu_twice_141 : decode b_Cu_twice 141 = .ok (.invokevirtual 68, 3) := by decide +kernel
theorem d_Cu_twice_144 : decode b_Cu_twice 144 = .ok (.aload_n 0, 1) := by decide +kernel
theorem d_Cu_twice_145 : decode b_Cu_twice 145 = .ok (.getfield 45, 3) := by decide +kernel
theorem d_Cu_twice_148 : decode b_Cu_twice 148 = .ok (.aload_n 0, 1) := by decide +kernel
theorem d_Cu_twice_149 : decode b_Cu_twice 149 = .ok (.getfield 24, 3) := by decide +kernel
theorem d_Cu_twice_152 : decode b_Cu_twice 152 = .ok (.aload_n 0, 1) := by decide +kernel
theorem d_Cu_twice_153 : decode b_Cu_twice 153 = .ok (.getfield 21, 3) := by decide +kernel
theorem d_Cu_twice_156 : decode b_Cu_twice 156 = .ok (.aload_n 0, 1) := by decide +kernel
theorem d_Cu_twice_157 : decode b_Cu_twice 157 = .ok (.getfield 21, 3) := by decide +kernel
theorem d_Cu_twice_160 : decode b_Cu_twice 160 = .ok (.invokevirtual 102, 3) := by decide +kernel
theorem d_Cu_twice_163 : decode b_Cu_twice 163 = .ok (.aload_n 0, 1) := by decide +kernel
theorem d_Cu_twice_164 : decode b_Cu_twice 164 = .ok (.getfield 45, 3) := by decide +kernel
theorem d_Cu_twice_167 : decode b_Cu_twice 167 = .ok (.aload_n 0, 1) := by decide +kernel
theorem d_Cu_twice_168 : decode b_Cu_twice 168 = .ok (.getfield 24, 3) := by decide +kernel
theorem d_Cu_twice_171 : decode b_Cu_twice 171 = .ok (.aload_n 0, 1) := by decide +kernel
theorem d_Cu_twice_172 : decode b_Cu_twice 172 = .ok (.getfield 24, 3) := by decide +kernel
theorem d_Cu_twice_175 : decode b_Cu_twice 175 = .ok (.aload_n 0, 1) := by decide +kernel
theorem d_Cu_twice_176 : decode b_Cu_twice 176 = .ok (.getfield 21, 3) := by decide +kernel
theorem d_Cu_twice_179 : decode b_Cu_twice 179 = .ok (.invokevirtual 102, 3) := by decide +kernel
theorem d_Cu_twice_182 : decode b_Cu_twice 182 = .ok (.aload_n 0, 1) := by decide +kernel
theorem d_Cu_twice_183 : decode b_Cu_twice 183 = .ok (.getfield 45, 3) := by decide +kernel
theorem d_Cu_twice_186 : decode b_Cu_twice 186 = .ok (.aload_n 0, 1) := by decide +kernel
theorem d_Cu_twice_187 : decode b_Cu_twice 187 = .ok (.getfield 9, 3) := by decide +kernel
theorem d_Cu_twice_190 : decode b_Cu_twice 190 = .ok (.aload_n 0, 1) := by decide +kernel
theorem d_Cu_twice_191 : decode b_Cu_twice 191 = .ok (.getfield 24, 3) := by decide +kernel
theorem d_Cu_twice_194 : decode b_Cu_twice 194 = .ok (.aload_n 0, 1) := by decide +kernel
theorem d_Cu_twice_195 : decode b_Cu_twice 195 = .ok (.getfield 24, 3) := by decide +kernel
theorem d_Cu_twice_198 : decode b_Cu_twice 198 = .ok (.invokevirtual 68, 3) := by decide +kernel
theorem d_Cu_twice_201 : decode b_Cu_twice 201 = .ok (.aload_n 0, 1) := by decide +kernel
theorem d_Cu_twice_202 : decode b_Cu_twice 202 = .ok (.getfield 45, 3) := by decide +kernel
theorem d_Cu_twice_205 : decode b_Cu_twice 205 = .ok (.aload_n 0, 1) := by decide +kernel
theorem d_Cu_twice_206 : decode b_Cu_twice 206 = .ok (.getfield 9, 3) := by decide +kernel
theorem d_Cu_twice_209 : decode b_Cu_twice 209 = .ok (.aload_n 0, 1) := by decide +kernel
theorem d_Cu_twice_210 : decode b_Cu_twice 210 = .ok (.getfield 9, 3) := by decide +kernel
theorem d_Cu_twice_213 : decode b_Cu_twice 213 = .ok (.aload_n 0, 1) := by decide +kernel
theorem d_Cu_twice_214 : decode b_Cu_twice 214 = .ok (.getfield 33, 3) := by decide +kernel
theorem d_Cu_twice_217 : decode b_Cu_twice 217 = .ok (.invokevirtual 82, 3) := by decide +kernel
theorem d_Cu_twice_220 : decode b_Cu_twice 220 = .ok (.aload_n 0, 1) := by decide +kernel
theorem d_Cu_twice_221 : decode b_Cu_twice 221 = .ok (.getfield 45, 3) := by decide +kernel
theorem d_Cu_twice_224 : decode b_Cu_twice 224 = .ok (.aload_n 0, 1) := by decide +kernel
theorem d_Cu_twice_225 : decode b_Cu_twice 225 = .ok (.getfield 9, 3) := by decide +kernel
theorem d_Cu_twice_228 : decode b_Cu_twice 228 = .ok (.aload_n 0, 1) := by decide +kernel
theorem d_Cu_twice_229 : decode b_Cu_twice 229 = .ok (.getfield 9, 3) := by decide +kernel
theorem d_Cu_twice_232 : decode b_Cu_twice 232 = .ok (.aload_n 0, 1) := by decide +kernel
theorem d_Cu_twice_233 : decode b_Cu_twice 233 = .ok (.getfield 33, 3) := by decide +kernel
theorem d_Cu_twice_236 : decode b_Cu_twice 236 = .ok (.invokevirtual 82, 3) := by decide +kernel
theorem d_Cu_twice_239 : decode b_Cu_twice 239 = .ok (.aload_n 0, 1) := by decide +kernel
theorem d_Cu_twice_240 : decode b_Cu_twice 240 = .ok (.getfield 45, 3) := by decide +kernel
theorem d_Cu_twice_243 : decode b_Cu_twice 243 = .ok (.aload_n 0, 1) := by decide +kernel
theorem d_Cu_twice_244 : decode b_Cu_twice 244 = .ok (.getfield 33, 3) := by decide +kernel
theorem d_Cu_twice_247 : decode b_Cu_twice 247 = .ok (.aload_n 0, 1) := by decide +kernel
theorem d_Cu_twice_248 : decode b_Cu_twice 248 = .ok (.getfield 33, 3) := by decide +kernel
theorem d_Cu_twice_251 : decode b_Cu_twice 251 = .ok (.aload_n 0, 1) := by decide +kernel
theorem d_Cu_twice_252 : decode b_Cu_twice 252 = .ok (.getfield 9, 3) := by decide +kernel
theorem d_Cu_twice_255 : decode b_Cu_twice 255 = .ok (.invokevirtual 82, 3) := by decide +kernel
theorem d_Cu_twice_258 : decode b_Cu_twice 258 = .ok (.aload_n 0, 1) := by decide +kernel
theorem d_Cu_twice_259 : decode b_Cu_twice 259 = .ok (.getfield 45, 3) := by decide +kernel
theorem d_Cu_twice_262 : decode b_Cu_twice 262 = .ok (.aload_n 0, 1) := by decide +kernel
theorem d_Cu_twice_263 : decode b_Cu_twice 263 = .ok (.getfield 15, 3) := by decide +kernel
theorem d_Cu_twice_266 : decode b_Cu_twice 266 = .ok (.aload_n 0, 1) := by decide +kernel
theorem d_Cu_twice_267 : decode b_Cu_twice 267 = .ok (.getfield 24, 3) := by decide +kernel
theorem d_Cu_twice_270 : decode b_Cu_twice 270 = .ok (.aload_n 0, 1) := by decide +kernel
theorem d_Cu_twice_271 : decode b_Cu_twice 271 = .ok (.getfield 33, 3) := by decide +kernel
theorem d_Cu_twice_274 : decode b_Cu_twice 274 = .ok (.invokevirtual 68, 3) := by decide +kernel
theorem d_Cu_twice_277 : decode b_Cu_twice 277 = .ok (.aload_n 0, 1) := by decide +kernel
theorem d_Cu_twice_278 : decode b_Cu_twice 278 = .ok (.getfield 45, 3) := by decide +kernel
theorem d_Cu_twice_281 : decode b_Cu_twice 281 = .ok (.aload_n 0, 1) := by decide +kernel
theorem d_Cu_twice_282 : decode b_Cu_twice 282 = .ok (.getfield 27, 3) := by decide +kernel
theorem d_Cu_twice_285 : decode b_Cu_twice 285 = .ok (.aload_n 0, 1) := by decide +kernel
theorem d_Cu_twice_286 : decode b_Cu_twice 286 = .ok (.getfield 27, 3) := by decide +kernel
theorem d_Cu_twice_289 : decode b_Cu_twice 289 = .ok (.aload_n 0, 1) := by decide +kernel
theorem d_Cu_twice_290 : decode b_Cu_twice 290 = .ok (.getfield 27, 3) := by decide +kernel
theorem d_Cu_twice_293 : decode b_Cu_twice 293 = .ok (.invokevirtual 102, 3) := by decide +kernel
theorem d_Cu_twice_296 : decode b_Cu_twice 296 = .ok (.aload_n 0, 1) := by decide +kernel
theorem d_Cu_twice_297 : decode b_Cu_twice 297 = .ok (.getfield 45, 3) := by decide +kernel
theorem d_Cu_twice_300 : decode b_Cu_twice 300 = .ok (.aload_n 0, 1) := by decide +kernel
theorem d_Cu_twice_301 : decode b_Cu_twice 301 = .ok (.getfield 27, 3) := by decide +kernel
theorem d_Cu_twice_304 : decode b_Cu_twice 304 = .ok (.aload_n 0, 1) := by decide +kernel
theorem d_Cu_twice_305 : decode b_Cu_twice 305 = .ok (.getfield 27, 3) := by decide +kernel
theorem d_Cu_twice_308 : decode b_Cu_twice 308 = .ok (.aload_n 0, 1) := by decide +kernel
theorem d_Cu_twice_309 : decode b_Cu_twice 309 = .ok (.getfield 27, 3) := by decide +kernel
theorem d_Cu_twice_312 : decode b_Cu_twice 312 = .ok (.invokevirtual 68, 3) := by decide +kernel
theorem d_Cu_twice_315 : decode b_Cu_twice 315 = .ok (.aload_n 0, 1) := by decide +kernel
theorem d_Cu_twice_316 : decode b_Cu_twice 316 = .ok (.getfield 45, 3) := by decide +kernel
theorem d_Cu_twice_319 : decode b_Cu_twice 319 = .ok (.aload_n 0, 1) := by decide +kernel
theorem d_Cu_twice_320 : decode b_Cu_twice 320 = .ok (.getfield 27, 3) := by decide +kernel
theorem d_Cu_twice_323 : decode b_Cu_twice 323 = .ok (.aload_n 0, 1) := by decide +kernel
theorem d_Cu_twice_324 : decode b_Cu_twice 324 = .ok (.getfield 27, 3) := by decide +kernel
theorem d_Cu_twice_327 : decode b_Cu_twice 327 = .ok (.aload_n 0, 1) := by decide +kernel
theorem d_Cu_twice_328 : decode b_Cu_twice 328 = .ok (.getfield 27, 3) := by decide +kernel
theorem d_Cu_twice_331 : decode b_Cu_twice 331 = .ok (.invokevirtual 102, 3) := by decide +kernel
theorem d_Cu_twice_334 : decode b_Cu_twice 334 = .ok (.aload_n 0, 1) := by decide +kernel
theorem d_Cu_twice_335 : decode b_Cu_twice 335 = .ok (.getfield 45, 3) := by decide +kernel
theorem d_Cu_twice_338 : decode b_Cu_twice 338 = .ok (.aload_n 0, 1) := by decide +kernel
theorem d_Cu_twice_339 : decode b_Cu_twice 339 = .ok (.getfield 15, 3) := by decide +kernel
theorem d_Cu_twice_342 : decode b_Cu_twice 342 = .ok (.aload_n 0, 1) := by decide +kernel
theorem d_Cu_twice_343 : decode b_Cu_twice 343 = .ok (.getfield 15, 3) := by decide +kernel
theorem d_Cu_twice_346 : decode b_Cu_twice 346 = .ok (.aload_n 0, 1) := by decide +kernel
theorem d_Cu_twice_347 : decode b_Cu_twice 347 = .ok (.getfield 27, 3) := by decide +kernel
theorem d_Cu_twice_350 : decode b_Cu_twice 350 = .ok (.invokevirtual 82, 3) := by decide +kernel
theorem d_Cu_twice_353 : decode b_Cu_twice 353 = .ok (.return_, 1) := by decide +kernel
set_option maxHeartbeats 4000000 in
set_option maxRecDepth 100000 in
theorem c_Cu_twice (l : Launch) (E : kr_E) (A : Nat → Nat) (h pa ga gw G hc : Nat) (v : Nat → Nat) (H : Heap) (hE : kr_ok E) (hA : kr_A E A) (hP : kr_P E h pa ga gw kP G) (hV : kr_V E hc h) (hW : kr_W E v H) (o : Option (Nat × Nat)) (hrep : kc_rep o (v (hc + 1)) (v (hc + 2)) (v (hc + 3))) : Met l y_Cu_twice w_Cu_twice ({ frames := 3, cells := 0, slots := 0, locals := 75 }) (kq_P [.ref hc] H (kr_C E A)) (kq_Q (fun o1 H1 => o1 = none ∧ ∃ w : Nat → Nat, kr_W E w H1 ∧ kc_rep (kc_twice o) (w (hc + 1)) (w (hc + 2)) (w (hc + 3)) ∧ ∀ q, ¬ kr_fr h hc q → w q = v q)) 0 0 (kr_fr h hc) := by
  refine Met.ofW (cc := b_Cu_twice) (maxL := 1) (ret := none) (by decide) rfl ?_
  intro p e s m args below meth c s₁ B0 hml hv
  obtain ⟨rfl, hH, hC⟩ := hv
  have hx := B0.exec
  have hb := B0.bytes
  have hret := B0.returns
  have hts := atoms_spec (ws := w_Cu_twice) B0.pre
  have hown : s.vm.findClass R_Cu = some m.cls := findClass_of_methodNamed B0.named
  have hlocks := B0.notSynchronized
  rw [hH]
  have hl := lv_entry ([.ref hc]) (n := 1) (Nat.le_of_ble_eq_true rfl)
  rw [lg_entry_eq]
  generalize (lg_sl ([.ref hc]) ++ List.replicate (1 - (lg_sl ([.ref hc])).length) Slot.unset).toArray = ls at hl ⊢
  have hl : lv_has ls 1 [(0, .ref hc)] := hl
  have hB := hC.1
  have hT := kr_T hE hB
  have hK := hB.1
  have hhc := hV.2.2.2
  have hlc0 : ∀ q ∈ ([] : List Loc), kr_fr h hc q.base := fun q h => by cases h
  have h3 := hV.2.2.1 3 (by decide) (by decide)
  have hsz := kr_src hE hW hB (Or.inl h3)
  have hlz := kr_lt hE hW (Or.inl h3)
  have hOc0 := kr_obj hW hV.1 hV.2.1
  have hOp0 := kr_obj hW hP.1 hP.2.1
  refine lv_aload_n hx hb d_Cu_twice_0 rfl (lv_at hl 0 rfl) ?_
  refine kq_get hx hb hts kt_F_Cu hown hK hOc0 rfl 3 (by decide) kt_w102 rfl d_Cu_twice_1 ?_
  refine kq_call (va_runS (As := [.ref (hc + 3)]) (rest := []) ⟨hx, hb, hml, hown, hts⟩ (c_Wo_isZero l H (hc + 3) (v (hc + 3)) hlz) (va_cwS 1 hts (kt_inS kt_w236 kt_w329 kt_w235 kt_w6) rfl rfl rfl (by decide +kernel) ⟨Nat.le_of_ble_eq_true rfl, Nat.le_of_ble_eq_true rfl⟩) (kq_preS (kq_st_r) (hsz)) rfl rfl hl.1 rfl (lv_room (Nat.le_of_ble_eq_true rfl)) d_Cu_twice_4 ⟨Nat.zero_le _, Nat.zero_le _⟩) (fun v9 H9 L9 hq9 hL9 => ?_)
  obtain ⟨rfl, e9⟩ := hq9
  rw [e9]
  clear e9
  refine W.eq (g2 := F0 m 7 ls [.int (kq_z (decide (v (hc + 3) = 0)))]) rfl ?_
  have hlc00 := t_lL (free := kr_fr h hc) hlc0 (fun q z => (hL9 q z).elim)
  refine lv_if_eq hx hb d_Cu_twice_7 rfl (fun hcc => ?_) (fun hcc => ?_)
  · have hz : v (hc + 3) ≠ 0 := kq_z_eq.mp hcc
    refine lv_aload_n hx hb d_Cu_twice_11 rfl (lv_at hl 0 rfl) ?_
    refine kq_get hx hb hts kt_F_Cu hown hK hOc0 rfl 0 (by decide) kt_w99 rfl d_Cu_twice_12 ?_
    refine lv_aload_n hx hb d_Cu_twice_15 rfl (lv_at hl 0 rfl) ?_
    refine kq_get hx hb hts kt_F_Cu hown hK hOc0 rfl 3 (by decide) kt_w102 rfl d_Cu_twice_16 ?_
    refine lv_aload_n hx hb d_Cu_twice_19 rfl (lv_at hl 0 rfl) ?_
    refine kq_get hx hb hts kt_F_Cu hown hK hOc0 rfl 2 (by decide) kt_w101 rfl d_Cu_twice_20 ?_
    refine lv_aload_n hx hb d_Cu_twice_23 rfl (lv_at hl 0 rfl) ?_
    refine kq_get hx hb hts kt_F_Cu hown hK hOc0 rfl 3 (by decide) kt_w102 rfl d_Cu_twice_24 ?_
    refine kq_call (va_runV (As := [.ref (hc + 3), .ref (hc + 2), .ref (hc + 3)]) (rest := []) ⟨hx, hb, hml, hown, hts⟩ (c_Pr_product l E h pa ga gw kP G v H hE hP hW (hc + 3) (hc + 2) (hc + 3) (hV.2.2.1 3 (by decide) (by decide)) (Or.inl (hV.2.2.1 2 (by decide) (by decide))) (Or.inl (hV.2.2.1 3 (by decide) (by decide)))) (cwV 3 hts (kt_inV kt_w206 kt_w260 kt_w204 kt_w205 kt_w3) rfl rfl rfl (by decide +kernel) ⟨Nat.le_of_ble_eq_true rfl, Nat.le_of_ble_eq_true rfl⟩) (kq_preV (kr_st E) (hC.1) (kq_recv hC.1.1 hOp0 rfl)) rfl rfl hl.1 rfl (lv_room (Nat.le_of_ble_eq_true rfl)) d_Cu_twice_27 ⟨Nat.zero_le _, Nat.zero_le _⟩) (fun u1 H1 L1 hq1 hL1 => ?_)
    obtain ⟨rfl, w1, hW1, f1, o1⟩ := hq1
    refine W.eq (g2 := F0 m 30 ls []) rfl ?_
    have hlc1 := t_lL (free := kr_fr h hc) hlc00 (fun q z => by rcases hL1 q z with z | z | z <;> (rw [z]; unfold kr_fr; omega))
    have e1 : w1 (hc + 3) = v (hc + 2) * v (hc + 3) % kP := by rw [f1]
    have hOc1 := kr_obj hW1 hV.1 hV.2.1
    have hOp1 := kr_obj hW1 hP.1 hP.2.1
    refine lv_aload_n hx hb d_Cu_twice_30 rfl (lv_at hl 0 rfl) ?_
    refine kq_get hx hb hts kt_F_Cu hown hK hOc1 rfl 0 (by decide) kt_w99 rfl d_Cu_twice_31 ?_
    refine lv_aload_n hx hb d_Cu_twice_34 rfl (lv_at hl 0 rfl) ?_
    refine kq_get hx hb hts kt_F_Cu hown hK hOc1 rfl 3 (by decide) kt_w102 rfl d_Cu_twice_35 ?_
    refine lv_aload_n hx hb d_Cu_twice_38 rfl (lv_at hl 0 rfl) ?_
    refine kq_get hx hb hts kt_F_Cu hown hK hOc1 rfl 3 (by decide) kt_w102 rfl d_Cu_twice_39 ?_
    refine lv_aload_n hx hb d_Cu_twice_42 rfl (lv_at hl 0 rfl) ?_
    refine kq_get hx hb hts kt_F_Cu hown hK hOc1 rfl 3 (by decide) kt_w102 rfl d_Cu_twice_43 ?_
    refine kq_call (va_runV (As := [.ref (hc + 3), .ref (hc + 3), .ref (hc + 3)]) (rest := []) ⟨hx, hb, hml, hown, hts⟩ (c_Pr_sum l E h pa ga gw kP G w1 H1 hE hP hW1 (hc + 3) (hc + 3) (hc + 3) (hV.2.2.1 3 (by decide) (by decide)) (Or.inl (hV.2.2.1 3 (by decide) (by decide))) (Or.inl (hV.2.2.1 3 (by decide) (by decide)))) (cwV 3 hts (kt_inV kt_w176 kt_w305 kt_w174 kt_w175 kt_w3) rfl rfl rfl (by decide +kernel) ⟨Nat.le_of_ble_eq_true rfl, Nat.le_of_ble_eq_true rfl⟩) (kq_preV (kr_st E) (hC.1) (kq_recv hC.1.1 hOp1 rfl)) rfl rfl hl.1 rfl (lv_room (Nat.le_of_ble_eq_true rfl)) d_Cu_twice_46 ⟨Nat.zero_le _, Nat.zero_le _⟩) (fun u2 H2 L2 hq2 hL2 => ?_)
    obtain ⟨rfl, hX2⟩ := hq2
    refine W.eq (g2 := F0 m 49 ls []) rfl ?_
    obtain ⟨w2, f2, o2, hW2⟩ : ∃ w : Nat → Nat, w (hc + 3) = (w1 (hc + 3) + w1 (hc + 3)) % kP ∧ (∀ q, q ≠ hc + 3 → w q = w1 q) ∧ kr_W E w H2 := ⟨_, kq_up_at, fun q hq => kq_up_ne hq, hX2⟩
    have hlc2 := t_lL (free := kr_fr h hc) hlc1 (fun q z => by rw [hL2 q z]; unfold kr_fr; omega)
    have e2 : w2 (hc + 3) = (w1 (hc + 3) + w1 (hc + 3)) % kP := by rw [f2]
    have hOc2 := kr_obj hW2 hV.1 hV.2.1
    have hOp2 := kr_obj hW2 hP.1 hP.2.1
    refine lv_aload_n hx hb d_Cu_twice_49 rfl (lv_at hl 0 rfl) ?_
    refine kq_get hx hb hts kt_F_Cu hown hK hOc2 rfl 0 (by decide) kt_w99 rfl d_Cu_twice_50 ?_
    refine lv_aload_n hx hb d_Cu_twice_53 rfl (lv_at hl 0 rfl) ?_
    refine kq_get hx hb hts kt_F_Cu hown hK hOc2 rfl 6 (by decide) kt_w105 rfl d_Cu_twice_54 ?_
    refine lv_aload_n hx hb d_Cu_twice_57 rfl (lv_at hl 0 rfl) ?_
    refine kq_get hx hb hts kt_F_Cu hown hK hOc2 rfl 2 (by decide) kt_w101 rfl d_Cu_twice_58 ?_
    refine lv_aload_n hx hb d_Cu_twice_61 rfl (lv_at hl 0 rfl) ?_
    refine kq_get hx hb hts kt_F_Cu hown hK hOc2 rfl 2 (by decide) kt_w101 rfl d_Cu_twice_62 ?_
    refine kq_call (va_runV (As := [.ref (hc + 6), .ref (hc + 2), .ref (hc + 2)]) (rest := []) ⟨hx, hb, hml, hown, hts⟩ (c_Pr_product l E h pa ga gw kP G w2 H2 hE hP hW2 (hc + 6) (hc + 2) (hc + 2) (hV.2.2.1 6 (by decide) (by decide)) (Or.inl (hV.2.2.1 2 (by decide) (by decide))) (Or.inl (hV.2.2.1 2 (by decide) (by decide)))) (cwV 3 hts (kt_inV kt_w206 kt_w260 kt_w204 kt_w205 kt_w3) rfl rfl rfl (by decide +kernel) ⟨Nat.le_of_ble_eq_true rfl, Nat.le_of_ble_eq_true rfl⟩) (kq_preV (kr_st E) (hC.1) (kq_recv hC.1.1 hOp2 rfl)) rfl rfl hl.1 rfl (lv_room (Nat.le_of_ble_eq_true rfl)) d_Cu_twice_65 ⟨Nat.zero_le _, Nat.zero_le _⟩) (fun u3 H3 L3 hq3 hL3 => ?_)
    obtain ⟨rfl, w3, hW3, f3, o3⟩ := hq3
    refine W.eq (g2 := F0 m 68 ls []) rfl ?_
    have hlc3 := t_lL (free := kr_fr h hc) hlc2 (fun q z => by rcases hL3 q z with z | z | z <;> (rw [z]; unfold kr_fr; omega))
    have e3 : w3 (hc + 6) = v (hc + 2) * v (hc + 2) % kP := by rw [f3, o2 (hc + 2) (by omega), o1 (hc + 2) (by omega) (by omega) (by omega)]
    have hOc3 := kr_obj hW3 hV.1 hV.2.1
    have hOp3 := kr_obj hW3 hP.1 hP.2.1
    refine lv_aload_n hx hb d_Cu_twice_68 rfl (lv_at hl 0 rfl) ?_
    refine kq_get hx hb hts kt_F_Cu hown hK hOc3 rfl 0 (by decide) kt_w99 rfl d_Cu_twice_69 ?_
    refine lv_aload_n hx hb d_Cu_twice_72 rfl (lv_at hl 0 rfl) ?_
    refine kq_get hx hb hts kt_F_Cu hown hK hOc3 rfl 8 (by decide) kt_w107 rfl d_Cu_twice_73 ?_
    refine lv_aload_n hx hb d_Cu_twice_76 rfl (lv_at hl 0 rfl) ?_
    refine kq_get hx hb hts kt_F_Cu hown hK hOc3 rfl 1 (by decide) kt_w100 rfl d_Cu_twice_77 ?_
    refine lv_aload_n hx hb d_Cu_twice_80 rfl (lv_at hl 0 rfl) ?_
    refine kq_get hx hb hts kt_F_Cu hown hK hOc3 rfl 6 (by decide) kt_w105 rfl d_Cu_twice_81 ?_
    refine kq_call (va_runV (As := [.ref (hc + 8), .ref (hc + 1), .ref (hc + 6)]) (rest := []) ⟨hx, hb, hml, hown, hts⟩ (c_Pr_product l E h pa ga gw kP G w3 H3 hE hP hW3 (hc + 8) (hc + 1) (hc + 6) (hV.2.2.1 8 (by decide) (by decide)) (Or.inl (hV.2.2.1 1 (by decide) (by decide))) (Or.inl (hV.2.2.1 6 (by decide) (by decide)))) (cwV 3 hts (kt_inV kt_w206 kt_w260 kt_w204 kt_w205 kt_w3) rfl rfl rfl (by decide +kernel) ⟨Nat.le_of_ble_eq_true rfl, Nat.le_of_ble_eq_true rfl⟩) (kq_preV (kr_st E) (hC.1) (kq_recv hC.1.1 hOp3 rfl)) rfl rfl hl.1 rfl (lv_room (Nat.le_of_ble_eq_true rfl)) d_Cu_twice_84 ⟨Nat.zero_le _, Nat.zero_le _⟩) (fun u4 H4 L4 hq4 hL4 => ?_)
    obtain ⟨rfl, w4, hW4, f4, o4⟩ := hq4
    refine W.eq (g2 := F0 m 87 ls []) rfl ?_
    have hlc4 := t_lL (free := kr_fr h hc) hlc3 (fun q z => by rcases hL4 q z with z | z | z <;> (rw [z]; unfold kr_fr; omega))
    have e4 : w4 (hc + 8) = v (hc + 1) * w3 (hc + 6) % kP := by rw [f4, o3 (hc + 1) (by omega) (by omega) (by omega), o2 (hc + 1) (by omega), o1 (hc + 1) (by omega) (by omega) (by omega)]
    have hOc4 := kr_obj hW4 hV.1 hV.2.1
    have hOp4 := kr_obj hW4 hP.1 hP.2.1
    refine lv_aload_n hx hb d_Cu_twice_87 rfl (lv_at hl 0 rfl) ?_
    refine kq_get hx hb hts kt_F_Cu hown hK hOc4 rfl 0 (by decide) kt_w99 rfl d_Cu_twice_88 ?_
    refine lv_aload_n hx hb d_Cu_twice_91 rfl (lv_at hl 0 rfl) ?_
    refine kq_get hx hb hts kt_F_Cu hown hK hOc4 rfl 8 (by decide) kt_w107 rfl d_Cu_twice_92 ?_
    refine lv_aload_n hx hb d_Cu_twice_95 rfl (lv_at hl 0 rfl) ?_
    refine kq_get hx hb hts kt_F_Cu hown hK hOc4 rfl 8 (by decide) kt_w107 rfl d_Cu_twice_96 ?_
    refine lv_aload_n hx hb d_Cu_twice_99 rfl (lv_at hl 0 rfl) ?_
    refine kq_get hx hb hts kt_F_Cu hown hK hOc4 rfl 8 (by decide) kt_w107 rfl d_Cu_twice_100 ?_
    refine kq_call (va_runV (As := [.ref (hc + 8), .ref (hc + 8), .ref (hc + 8)]) (rest := []) ⟨hx, hb, hml, hown, hts⟩ (c_Pr_sum l E h pa ga gw kP G w4 H4 hE hP hW4 (hc + 8) (hc + 8) (hc + 8) (hV.2.2.1 8 (by decide) (by decide)) (Or.inl (hV.2.2.1 8 (by decide) (by decide))) (Or.inl (hV.2.2.1 8 (by decide) (by decide)))) (cwV 3 hts (kt_inV kt_w176 kt_w305 kt_w174 kt_w175 kt_w3) rfl rfl rfl (by decide +kernel) ⟨Nat.le_of_ble_eq_true rfl, Nat.le_of_ble_eq_true rfl⟩) (kq_preV (kr_st E) (hC.1) (kq_recv hC.1.1 hOp4 rfl)) rfl rfl hl.1 rfl (lv_room (Nat.le_of_ble_eq_true rfl)) d_Cu_twice_103 ⟨Nat.zero_le _, Nat.zero_le _⟩) (fun u5 H5 L5 hq5 hL5 => ?_)
    obtain ⟨rfl, hX5⟩ := hq5
    refine W.eq (g2 := F0 m 106 ls []) rfl ?_
    obtain ⟨w5, f5, o5, hW5⟩ : ∃ w : Nat → Nat, w (hc + 8) = (w4 (hc + 8) + w4 (hc + 8)) % kP ∧ (∀ q, q ≠ hc + 8 → w q = w4 q) ∧ kr_W E w H5 := ⟨_, kq_up_at, fun q hq => kq_up_ne hq, hX5⟩
    have hlc5 := t_lL (free := kr_fr h hc) hlc4 (fun q z => by rw [hL5 q z]; unfold kr_fr; omega)
    have e5 : w5 (hc + 8) = (w4 (hc + 8) + w4 (hc + 8)) % kP := by rw [f5]
    have hOc5 := kr_obj hW5 hV.1 hV.2.1
    have hOp5 := kr_obj hW5 hP.1 hP.2.1
    refine lv_aload_n hx hb d_Cu_twice_106 rfl (lv_at hl 0 rfl) ?_
    refine kq_get hx hb hts kt_F_Cu hown hK hOc5 rfl 0 (by decide) kt_w99 rfl d_Cu_twice_107 ?_
    refine lv_aload_n hx hb d_Cu_twice_110 rfl (lv_at hl 0 rfl) ?_
    refine kq_get hx hb hts kt_F_Cu hown hK hOc5 rfl 8 (by decide) kt_w107 rfl d_Cu_twice_111 ?_
    refine lv_aload_n hx hb d_Cu_twice_114 rfl (lv_at hl 0 rfl) ?_
    refine kq_get hx hb hts kt_F_Cu hown hK hOc5 rfl 8 (by decide) kt_w107 rfl d_Cu_twice_115 ?_
    refine lv_aload_n hx hb d_Cu_twice_118 rfl (lv_at hl 0 rfl) ?_
    refine kq_get hx hb hts kt_F_Cu hown hK hOc5 rfl 8 (by decide) kt_w107 rfl d_Cu_twice_119 ?_
    refine kq_call (va_runV (As := [.ref (hc + 8), .ref (hc + 8), .ref (hc + 8)]) (rest := []) ⟨hx, hb, hml, hown, hts⟩ (c_Pr_sum l E h pa ga gw kP G w5 H5 hE hP hW5 (hc + 8) (hc + 8) (hc + 8) (hV.2.2.1 8 (by decide) (by decide)) (Or.inl (hV.2.2.1 8 (by decide) (by decide))) (Or.inl (hV.2.2.1 8 (by decide) (by decide)))) (cwV 3 hts (kt_inV kt_w176 kt_w305 kt_w174 kt_w175 kt_w3) rfl rfl rfl (by decide +kernel) ⟨Nat.le_of_ble_eq_true rfl, Nat.le_of_ble_eq_true rfl⟩) (kq_preV (kr_st E) (hC.1) (kq_recv hC.1.1 hOp5 rfl)) rfl rfl hl.1 rfl (lv_room (Nat.le_of_ble_eq_true rfl)) d_Cu_twice_122 ⟨Nat.zero_le _, Nat.zero_le _⟩) (fun u6 H6 L6 hq6 hL6 => ?_)
    obtain ⟨rfl, hX6⟩ := hq6
    refine W.eq (g2 := F0 m 125 ls []) rfl ?_
    obtain ⟨w6, f6, o6, hW6⟩ : ∃ w : Nat → Nat, w (hc + 8) = (w5 (hc + 8) + w5 (hc + 8)) % kP ∧ (∀ q, q ≠ hc + 8 → w q = w5 q) ∧ kr_W E w H6 := ⟨_, kq_up_at, fun q hq => kq_up_ne hq, hX6⟩
    have hlc6 := t_lL (free := kr_fr h hc) hlc5 (fun q z => by rw [hL6 q z]; unfold kr_fr; omega)
    have e6 : w6 (hc + 8) = (w5 (hc + 8) + w5 (hc + 8)) % kP := by rw [f6]
    have hOc6 := kr_obj hW6 hV.1 hV.2.1
    have hOp6 := kr_obj hW6 hP.1 hP.2.1
    refine lv_aload_n hx hb d_Cu_twice_125 rfl (lv_at hl 0 rfl) ?_
    refine kq_get hx hb hts kt_F_Cu hown hK hOc6 rfl 0 (by decide) kt_w99 rfl d_Cu_twice_126 ?_
    refine lv_aload_n hx hb d_Cu_twice_129 rfl (lv_at hl 0 rfl) ?_
    refine kq_get hx hb hts kt_F_Cu hown hK hOc6 rfl 4 (by decide) kt_w103 rfl d_Cu_twice_130 ?_
    refine lv_aload_n hx hb d_Cu_twice_133 rfl (lv_at hl 0 rfl) ?_
    refine kq_get hx hb hts kt_F_Cu hown hK hOc6 rfl 1 (by decide) kt_w100 rfl d_Cu_twice_134 ?_
    refine lv_aload_n hx hb d_Cu_twice_137 rfl (lv_at hl 0 rfl) ?_
    refine kq_get hx hb hts kt_F_Cu hown hK hOc6 rfl 1 (by decide) kt_w100 rfl d_Cu_twice_138 ?_
    refine kq_call (va_runV (As := [.ref (hc + 4), .ref (hc + 1), .ref (hc + 1)]) (rest := []) ⟨hx, hb, hml, hown, hts⟩ (c_Pr_product l E h pa ga gw kP G w6 H6 hE hP hW6 (hc + 4) (hc + 1) (hc + 1) (hV.2.2.1 4 (by decide) (by decide)) (Or.inl (hV.2.2.1 1 (by decide) (by decide))) (Or.inl (hV.2.2.1 1 (by decide) (by decide)))) (cwV 3 hts (kt_inV kt_w206 kt_w260 kt_w204 kt_w205 kt_w3) rfl rfl rfl (by decide +kernel) ⟨Nat.le_of_ble_eq_true rfl, Nat.le_of_ble_eq_true rfl⟩) (kq_preV (kr_st E) (hC.1) (kq_recv hC.1.1 hOp6 rfl)) rfl rfl hl.1 rfl (lv_room (Nat.le_of_ble_eq_true rfl)) d_Cu_twice_141 ⟨Nat.zero_le _, Nat.zero_le _⟩) (fun u7 H7 L7 hq7 hL7 => ?_)
    obtain ⟨rfl, w7, hW7, f7, o7⟩ := hq7
    refine W.eq (g2 := F0 m 144 ls []) rfl ?_
    have hlc7 := t_lL (free := kr_fr h hc) hlc6 (fun q z => by rcases hL7 q z with z | z | z <;> (rw [z]; unfold kr_fr; omega))
    have e7 : w7 (hc + 4) = v (hc + 1) * v (hc + 1) % kP := by rw [f7, o6 (hc + 1) (by omega), o5 (hc + 1) (by omega), o4 (hc + 1) (by omega) (by omega) (by omega), o3 (hc + 1) (by omega) (by omega) (by omega), o2 (hc + 1) (by omega), o1 (hc + 1) (by omega) (by omega) (by omega)]
    have hOc7 := kr_obj hW7 hV.1 hV.2.1
    have hOp7 := kr_obj hW7 hP.1 hP.2.1
    refine lv_aload_n hx hb d_Cu_twice_144 rfl (lv_at hl 0 rfl) ?_
    refine kq_get hx hb hts kt_F_Cu hown hK hOc7 rfl 0 (by decide) kt_w99 rfl d_Cu_twice_145 ?_
    refine lv_aload_n hx hb d_Cu_twice_148 rfl (lv_at hl 0 rfl) ?_
    refine kq_get hx hb hts kt_F_Cu hown hK hOc7 rfl 5 (by decide) kt_w104 rfl d_Cu_twice_149 ?_
    refine lv_aload_n hx hb d_Cu_twice_152 rfl (lv_at hl 0 rfl) ?_
    refine kq_get hx hb hts kt_F_Cu hown hK hOc7 rfl 4 (by decide) kt_w103 rfl d_Cu_twice_153 ?_
    refine lv_aload_n hx hb d_Cu_twice_156 rfl (lv_at hl 0 rfl) ?_
    refine kq_get hx hb hts kt_F_Cu hown hK hOc7 rfl 4 (by decide) kt_w103 rfl d_Cu_twice_157 ?_
    refine kq_call (va_runV (As := [.ref (hc + 5), .ref (hc + 4), .ref (hc + 4)]) (rest := []) ⟨hx, hb, hml, hown, hts⟩ (c_Pr_sum l E h pa ga gw kP G w7 H7 hE hP hW7 (hc + 5) (hc + 4) (hc + 4) (hV.2.2.1 5 (by decide) (by decide)) (Or.inl (hV.2.2.1 4 (by decide) (by decide))) (Or.inl (hV.2.2.1 4 (by decide) (by decide)))) (cwV 3 hts (kt_inV kt_w176 kt_w305 kt_w174 kt_w175 kt_w3) rfl rfl rfl (by decide +kernel) ⟨Nat.le_of_ble_eq_true rfl, Nat.le_of_ble_eq_true rfl⟩) (kq_preV (kr_st E) (hC.1) (kq_recv hC.1.1 hOp7 rfl)) rfl rfl hl.1 rfl (lv_room (Nat.le_of_ble_eq_true rfl)) d_Cu_twice_160 ⟨Nat.zero_le _, Nat.zero_le _⟩) (fun u8 H8 L8 hq8 hL8 => ?_)
    obtain ⟨rfl, hX8⟩ := hq8
    refine W.eq (g2 := F0 m 163 ls []) rfl ?_
    obtain ⟨w8, f8, o8, hW8⟩ : ∃ w : Nat → Nat, w (hc + 5) = (w7 (hc + 4) + w7 (hc + 4)) % kP ∧ (∀ q, q ≠ hc + 5 → w q = w7 q) ∧ kr_W E w H8 := ⟨_, kq_up_at, fun q hq => kq_up_ne hq, hX8⟩
    have hlc8 := t_lL (free := kr_fr h hc) hlc7 (fun q z => by rw [hL8 q z]; unfold kr_fr; omega)
    have e8 : w8 (hc + 5) = (w7 (hc + 4) + w7 (hc + 4)) % kP := by rw [f8]
    have hOc8 := kr_obj hW8 hV.1 hV.2.1
    have hOp8 := kr_obj hW8 hP.1 hP.2.1
    refine lv_aload_n hx hb d_Cu_twice_163 rfl (lv_at hl 0 rfl) ?_
    refine kq_get hx hb hts kt_F_Cu hown hK hOc8 rfl 0 (by decide) kt_w99 rfl d_Cu_twice_164 ?_
    refine lv_aload_n hx hb d_Cu_twice_167 rfl (lv_at hl 0 rfl) ?_
    refine kq_get hx hb hts kt_F_Cu hown hK hOc8 rfl 5 (by decide) kt_w104 rfl d_Cu_twice_168 ?_
    refine lv_aload_n hx hb d_Cu_twice_171 rfl (lv_at hl 0 rfl) ?_
    refine kq_get hx hb hts kt_F_Cu hown hK hOc8 rfl 5 (by decide) kt_w104 rfl d_Cu_twice_172 ?_
    refine lv_aload_n hx hb d_Cu_twice_175 rfl (lv_at hl 0 rfl) ?_
    refine kq_get hx hb hts kt_F_Cu hown hK hOc8 rfl 4 (by decide) kt_w103 rfl d_Cu_twice_176 ?_
    refine kq_call (va_runV (As := [.ref (hc + 5), .ref (hc + 5), .ref (hc + 4)]) (rest := []) ⟨hx, hb, hml, hown, hts⟩ (c_Pr_sum l E h pa ga gw kP G w8 H8 hE hP hW8 (hc + 5) (hc + 5) (hc + 4) (hV.2.2.1 5 (by decide) (by decide)) (Or.inl (hV.2.2.1 5 (by decide) (by decide))) (Or.inl (hV.2.2.1 4 (by decide) (by decide)))) (cwV 3 hts (kt_inV kt_w176 kt_w305 kt_w174 kt_w175 kt_w3) rfl rfl rfl (by decide +kernel) ⟨Nat.le_of_ble_eq_true rfl, Nat.le_of_ble_eq_true rfl⟩) (kq_preV (kr_st E) (hC.1) (kq_recv hC.1.1 hOp8 rfl)) rfl rfl hl.1 rfl (lv_room (Nat.le_of_ble_eq_true rfl)) d_Cu_twice_179 ⟨Nat.zero_le _, Nat.zero_le _⟩) (fun u9 H9 L9 hq9 hL9 => ?_)
    obtain ⟨rfl, hX9⟩ := hq9
    refine W.eq (g2 := F0 m 182 ls []) rfl ?_
    obtain ⟨w9, f9, o9, hW9⟩ : ∃ w : Nat → Nat, w (hc + 5) = (w8 (hc + 5) + w8 (hc + 4)) % kP ∧ (∀ q, q ≠ hc + 5 → w q = w8 q) ∧ kr_W E w H9 := ⟨_, kq_up_at, fun q hq => kq_up_ne hq, hX9⟩
    have hlc9 := t_lL (free := kr_fr h hc) hlc8 (fun q z => by rw [hL9 q z]; unfold kr_fr; omega)
    have e9 : w9 (hc + 5) = (w8 (hc + 5) + w7 (hc + 4)) % kP := by rw [f9, o8 (hc + 4) (by omega)]
    have hOc9 := kr_obj hW9 hV.1 hV.2.1
    have hOp9 := kr_obj hW9 hP.1 hP.2.1
    refine lv_aload_n hx hb d_Cu_twice_182 rfl (lv_at hl 0 rfl) ?_
    refine kq_get hx hb hts kt_F_Cu hown hK hOc9 rfl 0 (by decide) kt_w99 rfl d_Cu_twice_183 ?_
    refine lv_aload_n hx hb d_Cu_twice_186 rfl (lv_at hl 0 rfl) ?_
    refine kq_get hx hb hts kt_F_Cu hown hK hOc9 rfl 1 (by decide) kt_w100 rfl d_Cu_twice_187 ?_
    refine lv_aload_n hx hb d_Cu_twice_190 rfl (lv_at hl 0 rfl) ?_
    refine kq_get hx hb hts kt_F_Cu hown hK hOc9 rfl 5 (by decide) kt_w104 rfl d_Cu_twice_191 ?_
    refine lv_aload_n hx hb d_Cu_twice_194 rfl (lv_at hl 0 rfl) ?_
    refine kq_get hx hb hts kt_F_Cu hown hK hOc9 rfl 5 (by decide) kt_w104 rfl d_Cu_twice_195 ?_
    refine kq_call (va_runV (As := [.ref (hc + 1), .ref (hc + 5), .ref (hc + 5)]) (rest := []) ⟨hx, hb, hml, hown, hts⟩ (c_Pr_product l E h pa ga gw kP G w9 H9 hE hP hW9 (hc + 1) (hc + 5) (hc + 5) (hV.2.2.1 1 (by decide) (by decide)) (Or.inl (hV.2.2.1 5 (by decide) (by decide))) (Or.inl (hV.2.2.1 5 (by decide) (by decide)))) (cwV 3 hts (kt_inV kt_w206 kt_w260 kt_w204 kt_w205 kt_w3) rfl rfl rfl (by decide +kernel) ⟨Nat.le_of_ble_eq_true rfl, Nat.le_of_ble_eq_true rfl⟩) (kq_preV (kr_st E) (hC.1) (kq_recv hC.1.1 hOp9 rfl)) rfl rfl hl.1 rfl (lv_room (Nat.le_of_ble_eq_true rfl)) d_Cu_twice_198 ⟨Nat.zero_le _, Nat.zero_le _⟩) (fun u10 H10 L10 hq10 hL10 => ?_)
    obtain ⟨rfl, w10, hW10, f10, o10⟩ := hq10
    refine W.eq (g2 := F0 m 201 ls []) rfl ?_
    have hlc10 := t_lL (free := kr_fr h hc) hlc9 (fun q z => by rcases hL10 q z with z | z | z <;> (rw [z]; unfold kr_fr; omega))
    have e10 : w10 (hc + 1) = w9 (hc + 5) * w9 (hc + 5) % kP := by rw [f10]
    have hOc10 := kr_obj hW10 hV.1 hV.2.1
    have hOp10 := kr_obj hW10 hP.1 hP.2.1
    refine lv_aload_n hx hb d_Cu_twice_201 rfl (lv_at hl 0 rfl) ?_
    refine kq_get hx hb hts kt_F_Cu hown hK hOc10 rfl 0 (by decide) kt_w99 rfl d_Cu_twice_202 ?_
    refine lv_aload_n hx hb d_Cu_twice_205 rfl (lv_at hl 0 rfl) ?_
    refine kq_get hx hb hts kt_F_Cu hown hK hOc10 rfl 1 (by decide) kt_w100 rfl d_Cu_twice_206 ?_
    refine lv_aload_n hx hb d_Cu_twice_209 rfl (lv_at hl 0 rfl) ?_
    refine kq_get hx hb hts kt_F_Cu hown hK hOc10 rfl 1 (by decide) kt_w100 rfl d_Cu_twice_210 ?_
    refine lv_aload_n hx hb d_Cu_twice_213 rfl (lv_at hl 0 rfl) ?_
    refine kq_get hx hb hts kt_F_Cu hown hK hOc10 rfl 8 (by decide) kt_w107 rfl d_Cu_twice_214 ?_
    refine kq_call (va_runV (As := [.ref (hc + 1), .ref (hc + 1), .ref (hc + 8)]) (rest := []) ⟨hx, hb, hml, hown, hts⟩ (c_Pr_difference l E h pa ga gw kP G w10 H10 hE hP hW10 (hc + 1) (hc + 1) (hc + 8) (hV.2.2.1 1 (by decide) (by decide)) (Or.inl (hV.2.2.1 1 (by decide) (by decide))) (Or.inl (hV.2.2.1 8 (by decide) (by decide)))) (cwV 3 hts (kt_inV kt_w198 kt_w268 kt_w196 kt_w197 kt_w3) rfl rfl rfl (by decide +kernel) ⟨Nat.le_of_ble_eq_true rfl, Nat.le_of_ble_eq_true rfl⟩) (kq_preV (kr_st E) (hC.1) (kq_recv hC.1.1 hOp10 rfl)) rfl rfl hl.1 rfl (lv_room (Nat.le_of_ble_eq_true rfl)) d_Cu_twice_217 ⟨Nat.zero_le _, Nat.zero_le _⟩) (fun u11 H11 L11 hq11 hL11 => ?_)
    obtain ⟨rfl, hX11⟩ := hq11
    refine W.eq (g2 := F0 m 220 ls []) rfl ?_
    obtain ⟨w11, f11, o11, hW11⟩ : ∃ w : Nat → Nat, w (hc + 1) = kp_dif kP (w10 (hc + 1)) (w10 (hc + 8)) ∧ (∀ q, q ≠ hc + 1 → w q = w10 q) ∧ kr_W E w H11 := ⟨_, kq_up_at, fun q hq => kq_up_ne hq, hX11⟩
    have hlc11 := t_lL (free := kr_fr h hc) hlc10 (fun q z => by rw [hL11 q z]; unfold kr_fr; omega)
    have e11 : w11 (hc + 1) = kp_dif kP (w10 (hc + 1)) (w6 (hc + 8)) := by rw [f11, o10 (hc + 8) (by omega) (by omega) (by omega), o9 (hc + 8) (by omega), o8 (hc + 8) (by omega), o7 (hc + 8) (by omega) (by omega) (by omega)]
    have hOc11 := kr_obj hW11 hV.1 hV.2.1
    have hOp11 := kr_obj hW11 hP.1 hP.2.1
    refine lv_aload_n hx hb d_Cu_twice_220 rfl (lv_at hl 0 rfl) ?_
    refine kq_get hx hb hts kt_F_Cu hown hK hOc11 rfl 0 (by decide) kt_w99 rfl d_Cu_twice_221 ?_
    refine lv_aload_n hx hb d_Cu_twice_224 rfl (lv_at hl 0 rfl) ?_
    refine kq_get hx hb hts kt_F_Cu hown hK hOc11 rfl 1 (by decide) kt_w100 rfl d_Cu_twice_225 ?_
    refine lv_aload_n hx hb d_Cu_twice_228 rfl (lv_at hl 0 rfl) ?_
    refine kq_get hx hb hts kt_F_Cu hown hK hOc11 rfl 1 (by decide) kt_w100 rfl d_Cu_twice_229 ?_
    refine lv_aload_n hx hb d_Cu_twice_232 rfl (lv_at hl 0 rfl) ?_
    refine kq_get hx hb hts kt_F_Cu hown hK hOc11 rfl 8 (by decide) kt_w107 rfl d_Cu_twice_233 ?_
    refine kq_call (va_runV (As := [.ref (hc + 1), .ref (hc + 1), .ref (hc + 8)]) (rest := []) ⟨hx, hb, hml, hown, hts⟩ (c_Pr_difference l E h pa ga gw kP G w11 H11 hE hP hW11 (hc + 1) (hc + 1) (hc + 8) (hV.2.2.1 1 (by decide) (by decide)) (Or.inl (hV.2.2.1 1 (by decide) (by decide))) (Or.inl (hV.2.2.1 8 (by decide) (by decide)))) (cwV 3 hts (kt_inV kt_w198 kt_w268 kt_w196 kt_w197 kt_w3) rfl rfl rfl (by decide +kernel) ⟨Nat.le_of_ble_eq_true rfl, Nat.le_of_ble_eq_true rfl⟩) (kq_preV (kr_st E) (hC.1) (kq_recv hC.1.1 hOp11 rfl)) rfl rfl hl.1 rfl (lv_room (Nat.le_of_ble_eq_true rfl)) d_Cu_twice_236 ⟨Nat.zero_le _, Nat.zero_le _⟩) (fun u12 H12 L12 hq12 hL12 => ?_)
    obtain ⟨rfl, hX12⟩ := hq12
    refine W.eq (g2 := F0 m 239 ls []) rfl ?_
    obtain ⟨w12, f12, o12, hW12⟩ : ∃ w : Nat → Nat, w (hc + 1) = kp_dif kP (w11 (hc + 1)) (w11 (hc + 8)) ∧ (∀ q, q ≠ hc + 1 → w q = w11 q) ∧ kr_W E w H12 := ⟨_, kq_up_at, fun q hq => kq_up_ne hq, hX12⟩
    have hlc12 := t_lL (free := kr_fr h hc) hlc11 (fun q z => by rw [hL12 q z]; unfold kr_fr; omega)
    have e12 : w12 (hc + 1) = kp_dif kP (w11 (hc + 1)) (w6 (hc + 8)) := by rw [f12, o11 (hc + 8) (by omega), o10 (hc + 8) (by omega) (by omega) (by omega), o9 (hc + 8) (by omega), o8 (hc + 8) (by omega), o7 (hc + 8) (by omega) (by omega) (by omega)]
    have hOc12 := kr_obj hW12 hV.1 hV.2.1
    have hOp12 := kr_obj hW12 hP.1 hP.2.1
    refine lv_aload_n hx hb d_Cu_twice_239 rfl (lv_at hl 0 rfl) ?_
    refine kq_get hx hb hts kt_F_Cu hown hK hOc12 rfl 0 (by decide) kt_w99 rfl d_Cu_twice_240 ?_
    refine lv_aload_n hx hb d_Cu_twice_243 rfl (lv_at hl 0 rfl) ?_
    refine kq_get hx hb hts kt_F_Cu hown hK hOc12 rfl 8 (by decide) kt_w107 rfl d_Cu_twice_244 ?_
    refine lv_aload_n hx hb d_Cu_twice_247 rfl (lv_at hl 0 rfl) ?_
    refine kq_get hx hb hts kt_F_Cu hown hK hOc12 rfl 8 (by decide) kt_w107 rfl d_Cu_twice_248 ?_
    refine lv_aload_n hx hb d_Cu_twice_251 rfl (lv_at hl 0 rfl) ?_
    refine kq_get hx hb hts kt_F_Cu hown hK hOc12 rfl 1 (by decide) kt_w100 rfl d_Cu_twice_252 ?_
    refine kq_call (va_runV (As := [.ref (hc + 8), .ref (hc + 8), .ref (hc + 1)]) (rest := []) ⟨hx, hb, hml, hown, hts⟩ (c_Pr_difference l E h pa ga gw kP G w12 H12 hE hP hW12 (hc + 8) (hc + 8) (hc + 1) (hV.2.2.1 8 (by decide) (by decide)) (Or.inl (hV.2.2.1 8 (by decide) (by decide))) (Or.inl (hV.2.2.1 1 (by decide) (by decide)))) (cwV 3 hts (kt_inV kt_w198 kt_w268 kt_w196 kt_w197 kt_w3) rfl rfl rfl (by decide +kernel) ⟨Nat.le_of_ble_eq_true rfl, Nat.le_of_ble_eq_true rfl⟩) (kq_preV (kr_st E) (hC.1) (kq_recv hC.1.1 hOp12 rfl)) rfl rfl hl.1 rfl (lv_room (Nat.le_of_ble_eq_true rfl)) d_Cu_twice_255 ⟨Nat.zero_le _, Nat.zero_le _⟩) (fun u13 H13 L13 hq13 hL13 => ?_)
    obtain ⟨rfl, hX13⟩ := hq13
    refine W.eq (g2 := F0 m 258 ls []) rfl ?_
    obtain ⟨w13, f13, o13, hW13⟩ : ∃ w : Nat → Nat, w (hc + 8) = kp_dif kP (w12 (hc + 8)) (w12 (hc + 1)) ∧ (∀ q, q ≠ hc + 8 → w q = w12 q) ∧ kr_W E w H13 := ⟨_, kq_up_at, fun q hq => kq_up_ne hq, hX13⟩
    have hlc13 := t_lL (free := kr_fr h hc) hlc12 (fun q z => by rw [hL13 q z]; unfold kr_fr; omega)
    have e13 : w13 (hc + 8) = kp_dif kP (w6 (hc + 8)) (w12 (hc + 1)) := by rw [f13, o12 (hc + 8) (by omega), o11 (hc + 8) (by omega), o10 (hc + 8) (by omega) (by omega) (by omega), o9 (hc + 8) (by omega), o8 (hc + 8) (by omega), o7 (hc + 8) (by omega) (by omega) (by omega)]
    have hOc13 := kr_obj hW13 hV.1 hV.2.1
    have hOp13 := kr_obj hW13 hP.1 hP.2.1
    refine lv_aload_n hx hb d_Cu_twice_258 rfl (lv_at hl 0 rfl) ?_
    refine kq_get hx hb hts kt_F_Cu hown hK hOc13 rfl 0 (by decide) kt_w99 rfl d_Cu_twice_259 ?_
    refine lv_aload_n hx hb d_Cu_twice_262 rfl (lv_at hl 0 rfl) ?_
    refine kq_get hx hb hts kt_F_Cu hown hK hOc13 rfl 2 (by decide) kt_w101 rfl d_Cu_twice_263 ?_
    refine lv_aload_n hx hb d_Cu_twice_266 rfl (lv_at hl 0 rfl) ?_
    refine kq_get hx hb hts kt_F_Cu hown hK hOc13 rfl 5 (by decide) kt_w104 rfl d_Cu_twice_267 ?_
    refine lv_aload_n hx hb d_Cu_twice_270 rfl (lv_at hl 0 rfl) ?_
    refine kq_get hx hb hts kt_F_Cu hown hK hOc13 rfl 8 (by decide) kt_w107 rfl d_Cu_twice_271 ?_
    refine kq_call (va_runV (As := [.ref (hc + 2), .ref (hc + 5), .ref (hc + 8)]) (rest := []) ⟨hx, hb, hml, hown, hts⟩ (c_Pr_product l E h pa ga gw kP G w13 H13 hE hP hW13 (hc + 2) (hc + 5) (hc + 8) (hV.2.2.1 2 (by decide) (by decide)) (Or.inl (hV.2.2.1 5 (by decide) (by decide))) (Or.inl (hV.2.2.1 8 (by decide) (by decide)))) (cwV 3 hts (kt_inV kt_w206 kt_w260 kt_w204 kt_w205 kt_w3) rfl rfl rfl (by decide +kernel) ⟨Nat.le_of_ble_eq_true rfl, Nat.le_of_ble_eq_true rfl⟩) (kq_preV (kr_st E) (hC.1) (kq_recv hC.1.1 hOp13 rfl)) rfl rfl hl.1 rfl (lv_room (Nat.le_of_ble_eq_true rfl)) d_Cu_twice_274 ⟨Nat.zero_le _, Nat.zero_le _⟩) (fun u14 H14 L14 hq14 hL14 => ?_)
    obtain ⟨rfl, w14, hW14, f14, o14⟩ := hq14
    refine W.eq (g2 := F0 m 277 ls []) rfl ?_
    have hlc14 := t_lL (free := kr_fr h hc) hlc13 (fun q z => by rcases hL14 q z with z | z | z <;> (rw [z]; unfold kr_fr; omega))
    have e14 : w14 (hc + 2) = w9 (hc + 5) * w13 (hc + 8) % kP := by rw [f14, o13 (hc + 5) (by omega), o12 (hc + 5) (by omega), o11 (hc + 5) (by omega), o10 (hc + 5) (by omega) (by omega) (by omega)]
    have hOc14 := kr_obj hW14 hV.1 hV.2.1
    have hOp14 := kr_obj hW14 hP.1 hP.2.1
    refine lv_aload_n hx hb d_Cu_twice_277 rfl (lv_at hl 0 rfl) ?_
    refine kq_get hx hb hts kt_F_Cu hown hK hOc14 rfl 0 (by decide) kt_w99 rfl d_Cu_twice_278 ?_
    refine lv_aload_n hx hb d_Cu_twice_281 rfl (lv_at hl 0 rfl) ?_
    refine kq_get hx hb hts kt_F_Cu hown hK hOc14 rfl 6 (by decide) kt_w105 rfl d_Cu_twice_282 ?_
    refine lv_aload_n hx hb d_Cu_twice_285 rfl (lv_at hl 0 rfl) ?_
    refine kq_get hx hb hts kt_F_Cu hown hK hOc14 rfl 6 (by decide) kt_w105 rfl d_Cu_twice_286 ?_
    refine lv_aload_n hx hb d_Cu_twice_289 rfl (lv_at hl 0 rfl) ?_
    refine kq_get hx hb hts kt_F_Cu hown hK hOc14 rfl 6 (by decide) kt_w105 rfl d_Cu_twice_290 ?_
    refine kq_call (va_runV (As := [.ref (hc + 6), .ref (hc + 6), .ref (hc + 6)]) (rest := []) ⟨hx, hb, hml, hown, hts⟩ (c_Pr_sum l E h pa ga gw kP G w14 H14 hE hP hW14 (hc + 6) (hc + 6) (hc + 6) (hV.2.2.1 6 (by decide) (by decide)) (Or.inl (hV.2.2.1 6 (by decide) (by decide))) (Or.inl (hV.2.2.1 6 (by decide) (by decide)))) (cwV 3 hts (kt_inV kt_w176 kt_w305 kt_w174 kt_w175 kt_w3) rfl rfl rfl (by decide +kernel) ⟨Nat.le_of_ble_eq_true rfl, Nat.le_of_ble_eq_true rfl⟩) (kq_preV (kr_st E) (hC.1) (kq_recv hC.1.1 hOp14 rfl)) rfl rfl hl.1 rfl (lv_room (Nat.le_of_ble_eq_true rfl)) d_Cu_twice_293 ⟨Nat.zero_le _, Nat.zero_le _⟩) (fun u15 H15 L15 hq15 hL15 => ?_)
    obtain ⟨rfl, hX15⟩ := hq15
    refine W.eq (g2 := F0 m 296 ls []) rfl ?_
    obtain ⟨w15, f15, o15, hW15⟩ : ∃ w : Nat → Nat, w (hc + 6) = (w14 (hc + 6) + w14 (hc + 6)) % kP ∧ (∀ q, q ≠ hc + 6 → w q = w14 q) ∧ kr_W E w H15 := ⟨_, kq_up_at, fun q hq => kq_up_ne hq, hX15⟩
    have hlc15 := t_lL (free := kr_fr h hc) hlc14 (fun q z => by rw [hL15 q z]; unfold kr_fr; omega)
    have e15 : w15 (hc + 6) = (w3 (hc + 6) + w3 (hc + 6)) % kP := by rw [f15, o14 (hc + 6) (by omega) (by omega) (by omega), o13 (hc + 6) (by omega), o12 (hc + 6) (by omega), o11 (hc + 6) (by omega), o10 (hc + 6) (by omega) (by omega) (by omega), o9 (hc + 6) (by omega), o8 (hc + 6) (by omega), o7 (hc + 6) (by omega) (by omega) (by omega), o6 (hc + 6) (by omega), o5 (hc + 6) (by omega), o4 (hc + 6) (by omega) (by omega) (by omega)]
    have hOc15 := kr_obj hW15 hV.1 hV.2.1
    have hOp15 := kr_obj hW15 hP.1 hP.2.1
    refine lv_aload_n hx hb d_Cu_twice_296 rfl (lv_at hl 0 rfl) ?_
    refine kq_get hx hb hts kt_F_Cu hown hK hOc15 rfl 0 (by decide) kt_w99 rfl d_Cu_twice_297 ?_
    refine lv_aload_n hx hb d_Cu_twice_300 rfl (lv_at hl 0 rfl) ?_
    refine kq_get hx hb hts kt_F_Cu hown hK hOc15 rfl 6 (by decide) kt_w105 rfl d_Cu_twice_301 ?_
    refine lv_aload_n hx hb d_Cu_twice_304 rfl (lv_at hl 0 rfl) ?_
    refine kq_get hx hb hts kt_F_Cu hown hK hOc15 rfl 6 (by decide) kt_w105 rfl d_Cu_twice_305 ?_
    refine lv_aload_n hx hb d_Cu_twice_308 rfl (lv_at hl 0 rfl) ?_
    refine kq_get hx hb hts kt_F_Cu hown hK hOc15 rfl 6 (by decide) kt_w105 rfl d_Cu_twice_309 ?_
    refine kq_call (va_runV (As := [.ref (hc + 6), .ref (hc + 6), .ref (hc + 6)]) (rest := []) ⟨hx, hb, hml, hown, hts⟩ (c_Pr_product l E h pa ga gw kP G w15 H15 hE hP hW15 (hc + 6) (hc + 6) (hc + 6) (hV.2.2.1 6 (by decide) (by decide)) (Or.inl (hV.2.2.1 6 (by decide) (by decide))) (Or.inl (hV.2.2.1 6 (by decide) (by decide)))) (cwV 3 hts (kt_inV kt_w206 kt_w260 kt_w204 kt_w205 kt_w3) rfl rfl rfl (by decide +kernel) ⟨Nat.le_of_ble_eq_true rfl, Nat.le_of_ble_eq_true rfl⟩) (kq_preV (kr_st E) (hC.1) (kq_recv hC.1.1 hOp15 rfl)) rfl rfl hl.1 rfl (lv_room (Nat.le_of_ble_eq_true rfl)) d_Cu_twice_312 ⟨Nat.zero_le _, Nat.zero_le _⟩) (fun u16 H16 L16 hq16 hL16 => ?_)
    obtain ⟨rfl, w16, hW16, f16, o16⟩ := hq16
    refine W.eq (g2 := F0 m 315 ls []) rfl ?_
    have hlc16 := t_lL (free := kr_fr h hc) hlc15 (fun q z => by rcases hL16 q z with z | z | z <;> (rw [z]; unfold kr_fr; omega))
    have e16 : w16 (hc + 6) = w15 (hc + 6) * w15 (hc + 6) % kP := by rw [f16]
    have hOc16 := kr_obj hW16 hV.1 hV.2.1
    have hOp16 := kr_obj hW16 hP.1 hP.2.1
    refine lv_aload_n hx hb d_Cu_twice_315 rfl (lv_at hl 0 rfl) ?_
    refine kq_get hx hb hts kt_F_Cu hown hK hOc16 rfl 0 (by decide) kt_w99 rfl d_Cu_twice_316 ?_
    refine lv_aload_n hx hb d_Cu_twice_319 rfl (lv_at hl 0 rfl) ?_
    refine kq_get hx hb hts kt_F_Cu hown hK hOc16 rfl 6 (by decide) kt_w105 rfl d_Cu_twice_320 ?_
    refine lv_aload_n hx hb d_Cu_twice_323 rfl (lv_at hl 0 rfl) ?_
    refine kq_get hx hb hts kt_F_Cu hown hK hOc16 rfl 6 (by decide) kt_w105 rfl d_Cu_twice_324 ?_
    refine lv_aload_n hx hb d_Cu_twice_327 rfl (lv_at hl 0 rfl) ?_
    refine kq_get hx hb hts kt_F_Cu hown hK hOc16 rfl 6 (by decide) kt_w105 rfl d_Cu_twice_328 ?_
    refine kq_call (va_runV (As := [.ref (hc + 6), .ref (hc + 6), .ref (hc + 6)]) (rest := []) ⟨hx, hb, hml, hown, hts⟩ (c_Pr_sum l E h pa ga gw kP G w16 H16 hE hP hW16 (hc + 6) (hc + 6) (hc + 6) (hV.2.2.1 6 (by decide) (by decide)) (Or.inl (hV.2.2.1 6 (by decide) (by decide))) (Or.inl (hV.2.2.1 6 (by decide) (by decide)))) (cwV 3 hts (kt_inV kt_w176 kt_w305 kt_w174 kt_w175 kt_w3) rfl rfl rfl (by decide +kernel) ⟨Nat.le_of_ble_eq_true rfl, Nat.le_of_ble_eq_true rfl⟩) (kq_preV (kr_st E) (hC.1) (kq_recv hC.1.1 hOp16 rfl)) rfl rfl hl.1 rfl (lv_room (Nat.le_of_ble_eq_true rfl)) d_Cu_twice_331 ⟨Nat.zero_le _, Nat.zero_le _⟩) (fun u17 H17 L17 hq17 hL17 => ?_)
    obtain ⟨rfl, hX17⟩ := hq17
    refine W.eq (g2 := F0 m 334 ls []) rfl ?_
    obtain ⟨w17, f17, o17, hW17⟩ : ∃ w : Nat → Nat, w (hc + 6) = (w16 (hc + 6) + w16 (hc + 6)) % kP ∧ (∀ q, q ≠ hc + 6 → w q = w16 q) ∧ kr_W E w H17 := ⟨_, kq_up_at, fun q hq => kq_up_ne hq, hX17⟩
    have hlc17 := t_lL (free := kr_fr h hc) hlc16 (fun q z => by rw [hL17 q z]; unfold kr_fr; omega)
    have e17 : w17 (hc + 6) = (w16 (hc + 6) + w16 (hc + 6)) % kP := by rw [f17]
    have hOc17 := kr_obj hW17 hV.1 hV.2.1
    have hOp17 := kr_obj hW17 hP.1 hP.2.1
    refine lv_aload_n hx hb d_Cu_twice_334 rfl (lv_at hl 0 rfl) ?_
    refine kq_get hx hb hts kt_F_Cu hown hK hOc17 rfl 0 (by decide) kt_w99 rfl d_Cu_twice_335 ?_
    refine lv_aload_n hx hb d_Cu_twice_338 rfl (lv_at hl 0 rfl) ?_
    refine kq_get hx hb hts kt_F_Cu hown hK hOc17 rfl 2 (by decide) kt_w101 rfl d_Cu_twice_339 ?_
    refine lv_aload_n hx hb d_Cu_twice_342 rfl (lv_at hl 0 rfl) ?_
    refine kq_get hx hb hts kt_F_Cu hown hK hOc17 rfl 2 (by decide) kt_w101 rfl d_Cu_twice_343 ?_
    refine lv_aload_n hx hb d_Cu_twice_346 rfl (lv_at hl 0 rfl) ?_
    refine kq_get hx hb hts kt_F_Cu hown hK hOc17 rfl 6 (by decide) kt_w105 rfl d_Cu_twice_347 ?_
    refine kq_call (va_runV (As := [.ref (hc + 2), .ref (hc + 2), .ref (hc + 6)]) (rest := []) ⟨hx, hb, hml, hown, hts⟩ (c_Pr_difference l E h pa ga gw kP G w17 H17 hE hP hW17 (hc + 2) (hc + 2) (hc + 6) (hV.2.2.1 2 (by decide) (by decide)) (Or.inl (hV.2.2.1 2 (by decide) (by decide))) (Or.inl (hV.2.2.1 6 (by decide) (by decide)))) (cwV 3 hts (kt_inV kt_w198 kt_w268 kt_w196 kt_w197 kt_w3) rfl rfl rfl (by decide +kernel) ⟨Nat.le_of_ble_eq_true rfl, Nat.le_of_ble_eq_true rfl⟩) (kq_preV (kr_st E) (hC.1) (kq_recv hC.1.1 hOp17 rfl)) rfl rfl hl.1 rfl (lv_room (Nat.le_of_ble_eq_true rfl)) d_Cu_twice_350 ⟨Nat.zero_le _, Nat.zero_le _⟩) (fun u18 H18 L18 hq18 hL18 => ?_)
    obtain ⟨rfl, hX18⟩ := hq18
    refine W.eq (g2 := F0 m 353 ls []) rfl ?_
    obtain ⟨w18, f18, o18, hW18⟩ : ∃ w : Nat → Nat, w (hc + 2) = kp_dif kP (w17 (hc + 2)) (w17 (hc + 6)) ∧ (∀ q, q ≠ hc + 2 → w q = w17 q) ∧ kr_W E w H18 := ⟨_, kq_up_at, fun q hq => kq_up_ne hq, hX18⟩
    have hlc18 := t_lL (free := kr_fr h hc) hlc17 (fun q z => by rw [hL18 q z]; unfold kr_fr; omega)
    have e18 : w18 (hc + 2) = kp_dif kP (w14 (hc + 2)) (w17 (hc + 6)) := by rw [f18, o17 (hc + 2) (by omega), o16 (hc + 2) (by omega) (by omega) (by omega), o15 (hc + 2) (by omega)]
    have hOc18 := kr_obj hW18 hV.1 hV.2.1
    have hOp18 := kr_obj hW18 hP.1 hP.2.1
    have hrep2 := kc_rep_twice hrep hz e1 e2 e3 e4 e5 e6 e7 e8 e9 e10 e11 e12 e13 e14 e15 e16 e17 e18
    refine W.vret hx hb hret (fun t ht _ => ⟨_, rfl, rfl, w18, by rw [ht]; exact hW18, ?_, fun q hq => by
          have hq1 := hq
          unfold kr_fr at hq1
          rw [o18 q (by omega), o17 q (by omega), o16 q (by omega) (by omega) (by omega), o15 q (by omega), o14 q (by omega) (by omega) (by omega), o13 q (by omega), o12 q (by omega), o11 q (by omega), o10 q (by omega) (by omega) (by omega), o9 q (by omega), o8 q (by omega), o7 q (by omega) (by omega) (by omega), o6 q (by omega), o5 q (by omega), o4 q (by omega) (by omega) (by omega), o3 q (by omega) (by omega) (by omega), o2 q (by omega), o1 q (by omega) (by omega) (by omega)]⟩) hlc18 d_Cu_twice_353
    rw [o18 (hc + 1) (by omega), o17 (hc + 1) (by omega), o16 (hc + 1) (by omega) (by omega) (by omega), o15 (hc + 1) (by omega), o14 (hc + 1) (by omega) (by omega) (by omega), o13 (hc + 1) (by omega), o18 (hc + 3) (by omega), o17 (hc + 3) (by omega), o16 (hc + 3) (by omega) (by omega) (by omega), o15 (hc + 3) (by omega), o14 (hc + 3) (by omega) (by omega) (by omega), o13 (hc + 3) (by omega), o12 (hc + 3) (by omega), o11 (hc + 3) (by omega), o10 (hc + 3) (by omega) (by omega) (by omega), o9 (hc + 3) (by omega), o8 (hc + 3) (by omega), o7 (hc + 3) (by omega) (by omega) (by omega), o6 (hc + 3) (by omega), o5 (hc + 3) (by omega), o4 (hc + 3) (by omega) (by omega) (by omega), o3 (hc + 3) (by omega) (by omega) (by omega)]
    exact hrep2
  · have hz : v (hc + 3) = 0 := kq_z_ne.mp hcc
    have hn : kc_twice o = o := by
      cases o with
      | none => rfl
      | some q => exact absurd hz hrep.2.2.2.1
    refine W.vret hx hb hret (fun t ht _ => ⟨_, rfl, rfl, v, by rw [ht]; exact hW, by rw [hn]; exact hrep, fun _ _ => rfl⟩) hlc00 d_Cu_twice_10
end
section
/-! KeyCurve$Curve: measureLine, followLine, join, startMultiple (own rows). -/
/-- a Spot's object at sp: its rows behind it, and its flag -/
def kr_Sp (E : kr_E) (sp : Nat) (b : Bool) : Prop := va_P (kr_D E) kr_cl [(sp, .inr (2, [.ref (sp + 1), .ref (sp + 2), .int (kq_z b)]))] (kr_H E) ∧ ¬ kr_L E sp ∧ kr_out E (sp + 1) ∧ kr_out E (sp + 2)
theorem kc_rep_one {bx by1 : Nat} (hx : bx < kP) (hy : by1 < kP) : kc_rep (some (bx, by1)) bx by1 1 := by
  refine ⟨by decide +kernel, hx, hy, by decide, ?_, ?_⟩
  · show kj_f bx = kj_f bx * (kj_f 1 * kj_f 1)
    simp only [← kj_f_mul, Nat.mul_one]
  · show kj_f by1 = kj_f by1 * (kj_f 1 * kj_f 1 * kj_f 1)
    simp only [← kj_f_mul, Nat.mul_one]
theorem kc_rep_zero {o : Option (Nat × Nat)} {X Y Z : Nat} (h : kc_rep o X Y Z) (hz : Z = 0) : o = none := by
  cases o with
  | none => rfl
  | some q => exact absurd hz h.2.2.2.1
theorem kc_rep_nz {o : Option (Nat × Nat)} {X Y Z : Nat} (h : kc_rep o X Y Z) (hz : Z ≠ 0) : ∃ q, o = some q := by
  cases o with
  | none => exact absurd h.2 hz
  | some q => exact ⟨q, rfl⟩
theorem kc_rep_none (X Y : Nat) : kc_rep none X Y 0 := ⟨by decide +kernel, rfl⟩
theorem kq_z_b0 {b : Bool} (h : kq_z b = 0) : b = false := by
  cases b with
  | false => rfl
  | true => exact absurd h (by decide)
theorem kq_z_b1 {b : Bool} (h : ¬ kq_z b = 0) : b = true := by
  cases b with
  | false => exact absurd rfl h
  | true => rfl
theorem d_Cu_measureLine_0 : decode b_Cu_measureLine 0 = .ok (.aload_n 0, 1) := by decide +kernel
theorem d_Cu_measureLine_1 : decode b_Cu_measureLine 1 = .ok (.getfield 45, 3) := by decide +kernel
theorem d_Cu_measureLine_4 : decode b_Cu_measureLine 4 = .ok (.aload_n 0, 1) := by decide +kernel
theorem d_Cu_measureLine_5 : decode b_Cu_measureLine 5 = .ok (.getfield 27, 3) := by decide +kernel
theorem d_Cu_measureLine_8 : decode b_Cu_measureLine 8 = .ok (.aload_n 0, 1) := by decide +kernel
theorem d_Cu_measureLine_9 : decode b_Cu_measureLine 9 = .ok (.getfield 18, 3) := by decide +kernel
theorem d_Cu_measureLine_12 : decode b_Cu_measureLine 12 = .ok (.aload_n 0, 1) := by decide +kernel
theorem d_Cu_measureLine_13 : decode b_Cu_measureLine 13 = .ok (.getfield 18, 3) := by decide +kernel
theorem d_Cu_measureLine_16 : decode b_Cu_measureLine 16 = .ok (.invokevirtual 68, 3) := by decide +kernel
theorem d_Cu_measureLine_19 : decode b_Cu_measureLine 19 = .ok (.aload_n 0, 1) := by decide +kernel
theorem d_Cu_measureLine_20 : decode b_Cu_measureLine 20 = .ok (.getfield 45, 3) := by decide +kernel
theorem d_Cu_measureLine_23 : decode b_Cu_measureLine 23 = .ok (.aload_n 0, 1) := by decide +kernel
theorem d_Cu_measureLine_24 : decode b_Cu_measureLine 24 = .ok (.getfield 21, 3) := by decide +kernel
theorem d_Cu_measureLine_27 : decode b_Cu_measureLine 27 = .ok (.aload_n 1, 1) := by decide +kernel
theorem d_Cu_measureLine_28 : decode b_Cu_measureLine 28 = .ok (.getfield 129, 3) := by decide +kernel
theorem d_Cu_measureLine_31 : decode b_Cu_measureLine 31 = .ok (.aload_n 0, 1) := by decide +kernel
theorem d_Cu_measureLine_32 : decode b_Cu_measureLine 32 = .ok (.getfield 27, 3) := by decide +kernel
theorem d_Cu_measureLine_35 : decode b_Cu_measureLine 35 = .ok (.invokevirtual 68, 3) := by decide +kernel
theorem d_Cu_measureLine_38 : decode b_Cu_measureLine 38 = .ok (.aload_n 0, 1) := by decide +kernel
theorem d_Cu_measureLine_39 : decode b_Cu_measureLine 39 = .ok (.getfield 45, 3) := by decide +kernel
theorem d_Cu_measureLine_42 : decode b_Cu_measureLine 42 = .ok (.aload_n 0, 1) := by decide +kernel
theorem d_Cu_measureLine_43 : decode b_Cu_measureLine 43 = .ok (.getfield 21, 3) := by decide +kernel
theorem d_Cu_measureLine_46 : decode b_Cu_measureLine 46 = .ok (.aload_n 0, 1) := by decide +kernel
theorem d_Cu_measureLine_47 : decode b_Cu_measureLine 47 = .ok (.getfield 21, 3) := by decide +kernel
theorem d_Cu_measureLine_50 : decode b_Cu_measureLine 50 = .ok (.aload_n 0, 1) := by decide +kernel
theorem d_Cu_measureLine_51 : decode b_Cu_measureLine 51 = .ok (.getfield 9, 3) := by decide +kernel
theorem d_Cu_measureLine_54 : decode b_Cu_measureLine 54 = .ok (.invokevirtual 82, 3) := by decide +kernel
theorem d_Cu_measureLine_57 : decode b_Cu_measureLine 57 = .ok (.aload_n 0, 1) := by decide +kernel
theorem d_Cu_measureLine_58 : decode b_Cu_measureLine 58 = .ok (.getfield 45, 3) := by decide +kernel
theorem d_Cu_measureLine_61 : decode b_Cu_measureLine 61 = .ok (.aload_n 0, 1) := by decide +kernel
theorem d_Cu_measureLine_62 : decode b_Cu_measureLine 62 = .ok (.getfield 27, 3) := by decide +kernel
theorem d_Cu_measureLine_65 : decode b_Cu_measureLine 65 = .ok (.aload_n 0, 1) := by decide +kernel
theorem d_Cu_measureLine_66 : decode b_Cu_measureLine 66 = .ok (.getfield 27, 3) := by decide +kernel
theorem d_Cu_measureLine_69 : decode b_Cu_measureLine 69 = .ok (.aload_n 0, 1) := by decide +kernel
theorem d_Cu_measureLine_70 : decode b_Cu_measureLine 70 = .ok (.getfield 18, 3) := by decide +kernel
theorem d_Cu_measureLine_73 : decode b_Cu_measureLine 73 = .ok (.invokevirtual 68, 3) := by decide +kernel
theorem d_Cu_measureLine_76 : decode b_Cu_measureLine 76 = .ok (.aload_n 0, 1) := by decide +kernel
theorem d_Cu_measureLine_77 : decode b_Cu_measureLine 77 = .ok (.getfield 45, 3) := by decide +kernel
theorem d_Cu_measureLine_80 : decode b_Cu_measureLine 80 = .ok (.aload_n 0, 1) := by decide +kernel
theorem d_Cu_measureLine_81 : decode b_Cu_measureLine 81 = .ok (.getfield 24, 3) := by decide +kernel
theorem d_Cu_measureLine_84 : decode b_Cu_measureLine 84 = .ok (.aload_n 1, 1) := by decide +kernel
theorem d_Cu_measureLine_85 : decode b_Cu_measureLine 85 = .ok (.getfield 130, 3) := by decide +kernel
theorem d_Cu_measureLine_88 : decode b_Cu_measureLine 88 = .ok (.aload_n 0, 1) := by decide +kernel
theorem d_Cu_measureLine_89 : decode b_Cu_measureLine 89 = .ok (.getfield 27, 3) := by decide +kernel
theorem d_Cu_measureLine_92 : decode b_Cu_measureLine 92 = .ok (.invokevirtual 68, 3) := by decide +kernel
theorem d_Cu_measureLine_95 : decode b_Cu_measureLine 95 = .ok (.aload_n 0, 1) := by decide +kernel
theorem d_Cu_measureLine_96 : decode b_Cu_measureLine 96 = .ok (.getfield 45, 3) := by decide +kernel
theorem d_Cu_measureLine_99 : decode b_Cu_measureLine 99 = .ok (.aload_n 0, 1) := by decide +kernel
theorem d_Cu_measureLine_100 : decode b_Cu_measureLine 100 = .ok (.getfield 24, 3) := by decide +kernel
theorem d_Cu_measureLine_103 : decode b_Cu_measureLine 103 = .ok (.aload_n 0, 1) := by decide +kernel
theorem d_Cu_measureLine_104 : decode b_Cu_measureLine 104 = .ok (.getfield 24, 3) := by decide +kernel
theorem d_Cu_measureLine_107 : decode b_Cu_measureLine 107 = .ok (.aload_n 0, 1) := by decide +kernel
theorem d_Cu_measureLine_108 : decode b_Cu_measureLine 108 = .ok (.getfield 15, 3) := by decide +kernel
theorem d_Cu_measureLine_111 : decode b_Cu_measureLine 111 = .ok (.invokevirtual 82, 3) := by decide +kernel
theorem d_Cu_measureLine_114 : decode b_Cu_measureLine 114 = .ok (.return_, 1) := by decide +kernel
set_option maxHeartbeats 4000000 in
set_option maxRecDepth 100000 in
theorem c_Cu_measureLine (l : Launch) (E : kr_E) (A : Nat → Nat) (h pa ga gw G hc sp : Nat) (v : Nat → Nat) (H : Heap) (hE : kr_ok E) (hA : kr_A E A) (hP : kr_P E h pa ga gw kP G) (hV : kr_V E hc h) (hW : kr_W E v H) (b : Bool) (hS : kr_Sp E sp b) (hsp : sp + 2 < h) (q0 : Nat × Nat) (hrep : kc_rep (some q0) (v (hc + 1)) (v (hc + 2)) (v (hc + 3))) (hbx : v (sp + 1) < kP) (hby : v (sp + 2) < kP) : Met l y_Cu_measureLine w_Cu_measureLine ({ frames := 3, cells := 0, slots := 0, locals := 75 }) (kq_P [.ref hc, .ref sp] H (kr_C E A)) (kq_Q (fun o1 H1 => o1 = none ∧ ∃ w : Nat → Nat, kr_W E w H1 ∧ (w (hc + 1) = v (hc + 1) ∧ w (hc + 2) = v (hc + 2) ∧ w (hc + 3) = v (hc + 3)) ∧ (kj_f (w (hc + 4)) = kj_f (v (sp + 1)) * (kj_f (v (hc + 3)) * kj_f (v (hc + 3))) - kj_f (v (hc + 1)) ∧ kj_f (w (hc + 5)) = kj_f (v (sp + 2)) * (kj_f (v (hc + 3)) * kj_f (v (hc + 3)) * kj_f (v (hc + 3))) - kj_f (v (hc + 2))) ∧ (w (hc + 4) = 0 ↔ q0.1 = v (sp + 1)) ∧ (w (hc + 5) = 0 ↔ q0.2 = v (sp + 2)) ∧ w (hc + 4) < kP ∧ ∀ q, ¬ kr_fr h hc q → w q = v q)) 0 0 (kr_fr h hc) := by
  refine Met.ofW (cc := b_Cu_measureLine) (maxL := 2) (ret := none) (by decide) rfl ?_
  intro p e s m args below meth c s₁ B0 hml hv
  obtain ⟨rfl, hH, hC⟩ := hv
  have hx := B0.exec
  have hb := B0.bytes
  have hret := B0.returns
  have hts := atoms_spec (ws := w_Cu_measureLine) B0.pre
  have hown : s.vm.findClass R_Cu = some m.cls := findClass_of_methodNamed B0.named
  have hlocks := B0.notSynchronized
  rw [hH]
  have hl := lv_entry ([.ref hc, .ref sp]) (n := 2) (Nat.le_of_ble_eq_true rfl)
  rw [lg_entry_eq]
  generalize (lg_sl ([.ref hc, .ref sp]) ++ List.replicate (2 - (lg_sl ([.ref hc, .ref sp])).length) Slot.unset).toArray = ls at hl ⊢
  have hl : lv_has ls 2 [(0, .ref hc), (1, .ref sp)] := hl
  have hB := hC.1
  have hT := kr_T hE hB
  have hK := hB.1
  have hhc := hV.2.2.2
  have hlc0 : ∀ q ∈ ([] : List Loc), kr_fr h hc q.base := fun q h => by cases h
  have hOc0 := kr_obj hW hV.1 hV.2.1
  have hOp0 := kr_obj hW hP.1 hP.2.1
  have hOs0 := kr_obj hW hS.1 hS.2.1
  refine lv_aload_n hx hb d_Cu_measureLine_0 rfl (lv_at hl 0 rfl) ?_
  refine kq_get hx hb hts kt_F_Cu hown hK hOc0 rfl 0 (by decide) kt_w99 rfl d_Cu_measureLine_1 ?_
  refine lv_aload_n hx hb d_Cu_measureLine_4 rfl (lv_at hl 0 rfl) ?_
  refine kq_get hx hb hts kt_F_Cu hown hK hOc0 rfl 6 (by decide) kt_w105 rfl d_Cu_measureLine_5 ?_
  refine lv_aload_n hx hb d_Cu_measureLine_8 rfl (lv_at hl 0 rfl) ?_
  refine kq_get hx hb hts kt_F_Cu hown hK hOc0 rfl 3 (by decide) kt_w102 rfl d_Cu_measureLine_9 ?_
  refine lv_aload_n hx hb d_Cu_measureLine_12 rfl (lv_at hl 0 rfl) ?_
  refine kq_get hx hb hts kt_F_Cu hown hK hOc0 rfl 3 (by decide) kt_w102 rfl d_Cu_measureLine_13 ?_
  refine kq_call (va_runV (As := [.ref (hc + 6), .ref (hc + 3), .ref (hc + 3)]) (rest := []) ⟨hx, hb, hml, hown, hts⟩ (c_Pr_product l E h pa ga gw kP G v H hE hP hW (hc + 6) (hc + 3) (hc + 3) (hV.2.2.1 6 (by decide) (by decide)) (Or.inl (hV.2.2.1 3 (by decide) (by decide))) (Or.inl (hV.2.2.1 3 (by decide) (by decide)))) (cwV 3 hts (kt_inV kt_w206 kt_w260 kt_w204 kt_w205 kt_w3) rfl rfl rfl (by decide +kernel) ⟨Nat.le_of_ble_eq_true rfl, Nat.le_of_ble_eq_true rfl⟩) (kq_preV (kr_st E) (hC.1) (kq_recv hC.1.1 hOp0 rfl)) rfl rfl hl.1 rfl (lv_room (Nat.le_of_ble_eq_true rfl)) d_Cu_measureLine_16 ⟨Nat.zero_le _, Nat.zero_le _⟩) (fun u1 H1 L1 hq1 hL1 => ?_)
  obtain ⟨rfl, w1, hW1, f1, o1⟩ := hq1
  refine W.eq (g2 := F0 m 19 ls []) rfl ?_
  have hlc1 := t_lL (free := kr_fr h hc) hlc0 (fun q z => by rcases hL1 q z with z | z | z <;> (rw [z]; unfold kr_fr; omega))
  have e1 : w1 (hc + 6) = v (hc + 3) * v (hc + 3) % kP := by rw [f1]
  have hOc1 := kr_obj hW1 hV.1 hV.2.1
  have hOp1 := kr_obj hW1 hP.1 hP.2.1
  have hOs1 := kr_obj hW1 hS.1 hS.2.1
  refine lv_aload_n hx hb d_Cu_measureLine_19 rfl (lv_at hl 0 rfl) ?_
  refine kq_get hx hb hts kt_F_Cu hown hK hOc1 rfl 0 (by decide) kt_w99 rfl d_Cu_measureLine_20 ?_
  refine lv_aload_n hx hb d_Cu_measureLine_23 rfl (lv_at hl 0 rfl) ?_
  refine kq_get hx hb hts kt_F_Cu hown hK hOc1 rfl 4 (by decide) kt_w103 rfl d_Cu_measureLine_24 ?_
  refine lv_aload_n hx hb d_Cu_measureLine_27 rfl (lv_at hl 1 rfl) ?_
  refine kq_get hx hb hts kt_F_Sp hown hK hOs1 rfl 0 (by decide) kt_w27 rfl d_Cu_measureLine_28 ?_
  refine lv_aload_n hx hb d_Cu_measureLine_31 rfl (lv_at hl 0 rfl) ?_
  refine kq_get hx hb hts kt_F_Cu hown hK hOc1 rfl 6 (by decide) kt_w105 rfl d_Cu_measureLine_32 ?_
  refine kq_call (va_runV (As := [.ref (hc + 4), .ref (sp + 1), .ref (hc + 6)]) (rest := []) ⟨hx, hb, hml, hown, hts⟩ (c_Pr_product l E h pa ga gw kP G w1 H1 hE hP hW1 (hc + 4) (sp + 1) (hc + 6) (hV.2.2.1 4 (by decide) (by decide)) (Or.inl hS.2.2.1) (Or.inl (hV.2.2.1 6 (by decide) (by decide)))) (cwV 3 hts (kt_inV kt_w206 kt_w260 kt_w204 kt_w205 kt_w3) rfl rfl rfl (by decide +kernel) ⟨Nat.le_of_ble_eq_true rfl, Nat.le_of_ble_eq_true rfl⟩) (kq_preV (kr_st E) (hC.1) (kq_recv hC.1.1 hOp1 rfl)) rfl rfl hl.1 rfl (lv_room (Nat.le_of_ble_eq_true rfl)) d_Cu_measureLine_35 ⟨Nat.zero_le _, Nat.zero_le _⟩) (fun u2 H2 L2 hq2 hL2 => ?_)
  obtain ⟨rfl, w2, hW2, f2, o2⟩ := hq2
  refine W.eq (g2 := F0 m 38 ls []) rfl ?_
  have hlc2 := t_lL (free := kr_fr h hc) hlc1 (fun q z => by rcases hL2 q z with z | z | z <;> (rw [z]; unfold kr_fr; omega))
  have e2 : w2 (hc + 4) = v (sp + 1) * w1 (hc + 6) % kP := by rw [f2, o1 (sp + 1) (by omega) (by omega) (by omega)]
  have hOc2 := kr_obj hW2 hV.1 hV.2.1
  have hOp2 := kr_obj hW2 hP.1 hP.2.1
  have hOs2 := kr_obj hW2 hS.1 hS.2.1
  refine lv_aload_n hx hb d_Cu_measureLine_38 rfl (lv_at hl 0 rfl) ?_
  refine kq_get hx hb hts kt_F_Cu hown hK hOc2 rfl 0 (by decide) kt_w99 rfl d_Cu_measureLine_39 ?_
  refine lv_aload_n hx hb d_Cu_measureLine_42 rfl (lv_at hl 0 rfl) ?_
  refine kq_get hx hb hts kt_F_Cu hown hK hOc2 rfl 4 (by decide) kt_w103 rfl d_Cu_measureLine_43 ?_
  refine lv_aload_n hx hb d_Cu_measureLine_46 rfl (lv_at hl 0 rfl) ?_
  refine kq_get hx hb hts kt_F_Cu hown hK hOc2 rfl 4 (by decide) kt_w103 rfl d_Cu_measureLine_47 ?_
  refine lv_aload_n hx hb d_Cu_measureLine_50 rfl (lv_at hl 0 rfl) ?_
  refine kq_get hx hb hts kt_F_Cu hown hK hOc2 rfl 1 (by decide) kt_w100 rfl d_Cu_measureLine_51 ?_
  refine kq_call (va_runV (As := [.ref (hc + 4), .ref (hc + 4), .ref (hc + 1)]) (rest := []) ⟨hx, hb, hml, hown, hts⟩ (c_Pr_difference l E h pa ga gw kP G w2 H2 hE hP hW2 (hc + 4) (hc + 4) (hc + 1) (hV.2.2.1 4 (by decide) (by decide)) (Or.inl (hV.2.2.1 4 (by decide) (by decide))) (Or.inl (hV.2.2.1 1 (by decide) (by decide)))) (cwV 3 hts (kt_inV kt_w198 kt_w268 kt_w196 kt_w197 kt_w3) rfl rfl rfl (by decide +kernel) ⟨Nat.le_of_ble_eq_true rfl, Nat.le_of_ble_eq_true rfl⟩) (kq_preV (kr_st E) (hC.1) (kq_recv hC.1.1 hOp2 rfl)) rfl rfl hl.1 rfl (lv_room (Nat.le_of_ble_eq_true rfl)) d_Cu_measureLine_54 ⟨Nat.zero_le _, Nat.zero_le _⟩) (fun u3 H3 L3 hq3 hL3 => ?_)
  obtain ⟨rfl, hX3⟩ := hq3
  refine W.eq (g2 := F0 m 57 ls []) rfl ?_
  obtain ⟨w3, f3, o3, hW3⟩ : ∃ w : Nat → Nat, w (hc + 4) = kp_dif kP (w2 (hc + 4)) (w2 (hc + 1)) ∧ (∀ q, q ≠ hc + 4 → w q = w2 q) ∧ kr_W E w H3 := ⟨_, kq_up_at, fun q hq => kq_up_ne hq, hX3⟩
  have hlc3 := t_lL (free := kr_fr h hc) hlc2 (fun q z => by rw [hL3 q z]; unfold kr_fr; omega)
  have e3 : w3 (hc + 4) = kp_dif kP (w2 (hc + 4)) (v (hc + 1)) := by rw [f3, o2 (hc + 1) (by omega) (by omega) (by omega), o1 (hc + 1) (by omega) (by omega) (by omega)]
  have hOc3 := kr_obj hW3 hV.1 hV.2.1
  have hOp3 := kr_obj hW3 hP.1 hP.2.1
  have hOs3 := kr_obj hW3 hS.1 hS.2.1
  refine lv_aload_n hx hb d_Cu_measureLine_57 rfl (lv_at hl 0 rfl) ?_
  refine kq_get hx hb hts kt_F_Cu hown hK hOc3 rfl 0 (by decide) kt_w99 rfl d_Cu_measureLine_58 ?_
  refine lv_aload_n hx hb d_Cu_measureLine_61 rfl (lv_at hl 0 rfl) ?_
  refine kq_get hx hb hts kt_F_Cu hown hK hOc3 rfl 6 (by decide) kt_w105 rfl d_Cu_measureLine_62 ?_
  refine lv_aload_n hx hb d_Cu_measureLine_65 rfl (lv_at hl 0 rfl) ?_
  refine kq_get hx hb hts kt_F_Cu hown hK hOc3 rfl 6 (by decide) kt_w105 rfl d_Cu_measureLine_66 ?_
  refine lv_aload_n hx hb d_Cu_measureLine_69 rfl (lv_at hl 0 rfl) ?_
  refine kq_get hx hb hts kt_F_Cu hown hK hOc3 rfl 3 (by decide) kt_w102 rfl d_Cu_measureLine_70 ?_
  refine kq_call (va_runV (As := [.ref (hc + 6), .ref (hc + 6), .ref (hc + 3)]) (rest := []) ⟨hx, hb, hml, hown, hts⟩ (c_Pr_product l E h pa ga gw kP G w3 H3 hE hP hW3 (hc + 6) (hc + 6) (hc + 3) (hV.2.2.1 6 (by decide) (by decide)) (Or.inl (hV.2.2.1 6 (by decide) (by decide))) (Or.inl (hV.2.2.1 3 (by decide) (by decide)))) (cwV 3 hts (kt_inV kt_w206 kt_w260 kt_w204 kt_w205 kt_w3) rfl rfl rfl (by decide +kernel) ⟨Nat.le_of_ble_eq_true rfl, Nat.le_of_ble_eq_true rfl⟩) (kq_preV (kr_st E) (hC.1) (kq_recv hC.1.1 hOp3 rfl)) rfl rfl hl.1 rfl (lv_room (Nat.le_of_ble_eq_true rfl)) d_Cu_measureLine_73 ⟨Nat.zero_le _, Nat.zero_le _⟩) (fun u4 H4 L4 hq4 hL4 => ?_)
  obtain ⟨rfl, w4, hW4, f4, o4⟩ := hq4
  refine W.eq (g2 := F0 m 76 ls []) rfl ?_
  have hlc4 := t_lL (free := kr_fr h hc) hlc3 (fun q z => by rcases hL4 q z with z | z | z <;> (rw [z]; unfold kr_fr; omega))
  have e4 : w4 (hc + 6) = w1 (hc + 6) * v (hc + 3) % kP := by rw [f4, o3 (hc + 6) (by omega), o2 (hc + 6) (by omega) (by omega) (by omega), o3 (hc + 3) (by omega), o2 (hc + 3) (by omega) (by omega) (by omega), o1 (hc + 3) (by omega) (by omega) (by omega)]
  have hOc4 := kr_obj hW4 hV.1 hV.2.1
  have hOp4 := kr_obj hW4 hP.1 hP.2.1
  have hOs4 := kr_obj hW4 hS.1 hS.2.1
  refine lv_aload_n hx hb d_Cu_measureLine_76 rfl (lv_at hl 0 rfl) ?_
  refine kq_get hx hb hts kt_F_Cu hown hK hOc4 rfl 0 (by decide) kt_w99 rfl d_Cu_measureLine_77 ?_
  refine lv_aload_n hx hb d_Cu_measureLine_80 rfl (lv_at hl 0 rfl) ?_
  refine kq_get hx hb hts kt_F_Cu hown hK hOc4 rfl 5 (by decide) kt_w104 rfl d_Cu_measureLine_81 ?_
  refine lv_aload_n hx hb d_Cu_measureLine_84 rfl (lv_at hl 1 rfl) ?_
  refine kq_get hx hb hts kt_F_Sp hown hK hOs4 rfl 1 (by decide) kt_w30 rfl d_Cu_measureLine_85 ?_
  refine lv_aload_n hx hb d_Cu_measureLine_88 rfl (lv_at hl 0 rfl) ?_
  refine kq_get hx hb hts kt_F_Cu hown hK hOc4 rfl 6 (by decide) kt_w105 rfl d_Cu_measureLine_89 ?_
  refine kq_call (va_runV (As := [.ref (hc + 5), .ref (sp + 2), .ref (hc + 6)]) (rest := []) ⟨hx, hb, hml, hown, hts⟩ (c_Pr_product l E h pa ga gw kP G w4 H4 hE hP hW4 (hc + 5) (sp + 2) (hc + 6) (hV.2.2.1 5 (by decide) (by decide)) (Or.inl hS.2.2.2) (Or.inl (hV.2.2.1 6 (by decide) (by decide)))) (cwV 3 hts (kt_inV kt_w206 kt_w260 kt_w204 kt_w205 kt_w3) rfl rfl rfl (by decide +kernel) ⟨Nat.le_of_ble_eq_true rfl, Nat.le_of_ble_eq_true rfl⟩) (kq_preV (kr_st E) (hC.1) (kq_recv hC.1.1 hOp4 rfl)) rfl rfl hl.1 rfl (lv_room (Nat.le_of_ble_eq_true rfl)) d_Cu_measureLine_92 ⟨Nat.zero_le _, Nat.zero_le _⟩) (fun u5 H5 L5 hq5 hL5 => ?_)
  obtain ⟨rfl, w5, hW5, f5, o5⟩ := hq5
  refine W.eq (g2 := F0 m 95 ls []) rfl ?_
  have hlc5 := t_lL (free := kr_fr h hc) hlc4 (fun q z => by rcases hL5 q z with z | z | z <;> (rw [z]; unfold kr_fr; omega))
  have e5 : w5 (hc + 5) = v (sp + 2) * w4 (hc + 6) % kP := by rw [f5, o4 (sp + 2) (by omega) (by omega) (by omega), o3 (sp + 2) (by omega), o2 (sp + 2) (by omega) (by omega) (by omega), o1 (sp + 2) (by omega) (by omega) (by omega)]
  have hOc5 := kr_obj hW5 hV.1 hV.2.1
  have hOp5 := kr_obj hW5 hP.1 hP.2.1
  have hOs5 := kr_obj hW5 hS.1 hS.2.1
  refine lv_aload_n hx hb d_Cu_measureLine_95 rfl (lv_at hl 0 rfl) ?_
  refine kq_get hx hb hts kt_F_Cu hown hK hOc5 rfl 0 (by decide) kt_w99 rfl d_Cu_measureLine_96 ?_
  refine lv_aload_n hx hb d_Cu_measureLine_99 rfl (lv_at hl 0 rfl) ?_
  refine kq_get hx hb hts kt_F_Cu hown hK hOc5 rfl 5 (by decide) kt_w104 rfl d_Cu_measureLine_100 ?_
  refine lv_aload_n hx hb d_Cu_measureLine_103 rfl (lv_at hl 0 rfl) ?_
  refine kq_get hx hb hts kt_F_Cu hown hK hOc5 rfl 5 (by decide) kt_w104 rfl d_Cu_measureLine_104 ?_
  refine lv_aload_n hx hb d_Cu_measureLine_107 rfl (lv_at hl 0 rfl) ?_
  refine kq_get hx hb hts kt_F_Cu hown hK hOc5 rfl 2 (by decide) kt_w101 rfl d_Cu_measureLine_108 ?_
  refine kq_call (va_runV (As := [.ref (hc + 5), .ref (hc + 5), .ref (hc + 2)]) (rest := []) ⟨hx, hb, hml, hown, hts⟩ (c_Pr_difference l E h pa ga gw kP G w5 H5 hE hP hW5 (hc + 5) (hc + 5) (hc + 2) (hV.2.2.1 5 (by decide) (by decide)) (Or.inl (hV.2.2.1 5 (by decide) (by decide))) (Or.inl (hV.2.2.1 2 (by decide) (by decide)))) (cwV 3 hts (kt_inV kt_w198 kt_w268 kt_w196 kt_w197 kt_w3) rfl rfl rfl (by decide +kernel) ⟨Nat.le_of_ble_eq_true rfl, Nat.le_of_ble_eq_true rfl⟩) (kq_preV (kr_st E) (hC.1) (kq_recv hC.1.1 hOp5 rfl)) rfl rfl hl.1 rfl (lv_room (Nat.le_of_ble_eq_true rfl)) d_Cu_measureLine_111 ⟨Nat.zero_le _, Nat.zero_le _⟩) (fun u6 H6 L6 hq6 hL6 => ?_)
  obtain ⟨rfl, hX6⟩ := hq6
  refine W.eq (g2 := F0 m 114 ls []) rfl ?_
  obtain ⟨w6, f6, o6, hW6⟩ : ∃ w : Nat → Nat, w (hc + 5) = kp_dif kP (w5 (hc + 5)) (w5 (hc + 2)) ∧ (∀ q, q ≠ hc + 5 → w q = w5 q) ∧ kr_W E w H6 := ⟨_, kq_up_at, fun q hq => kq_up_ne hq, hX6⟩
  have hlc6 := t_lL (free := kr_fr h hc) hlc5 (fun q z => by rw [hL6 q z]; unfold kr_fr; omega)
  have e6 : w6 (hc + 5) = kp_dif kP (w5 (hc + 5)) (v (hc + 2)) := by rw [f6, o5 (hc + 2) (by omega) (by omega) (by omega), o4 (hc + 2) (by omega) (by omega) (by omega), o3 (hc + 2) (by omega), o2 (hc + 2) (by omega) (by omega) (by omega), o1 (hc + 2) (by omega) (by omega) (by omega)]
  have hOc6 := kr_obj hW6 hV.1 hV.2.1
  have hOp6 := kr_obj hW6 hP.1 hP.2.1
  have hOs6 := kr_obj hW6 hS.1 hS.2.1
  obtain ⟨hg, hz1, hz2⟩ := kc_measure hrep hbx hby e1 e2 e3 e4 e5 e6
  have r4 : w6 (hc + 4) = w3 (hc + 4) := by rw [o6 (hc + 4) (by omega), o5 (hc + 4) (by omega) (by omega) (by omega), o4 (hc + 4) (by omega) (by omega) (by omega)]
  refine W.vret hx hb hret (fun t ht _ => ⟨_, rfl, rfl, w6, by rw [ht]; exact hW6, ⟨?_, ?_, ?_⟩, ?_, ?_, hz2, ?_, fun q hq => by
        have hq1 := hq
        unfold kr_fr at hq1
        rw [o6 q (by omega), o5 q (by omega) (by omega) (by omega), o4 q (by omega) (by omega) (by omega), o3 q (by omega), o2 q (by omega) (by omega) (by omega), o1 q (by omega) (by omega) (by omega)]⟩) hlc6 d_Cu_measureLine_114
  · rw [o6 (hc + 1) (by omega), o5 (hc + 1) (by omega) (by omega) (by omega), o4 (hc + 1) (by omega) (by omega) (by omega), o3 (hc + 1) (by omega), o2 (hc + 1) (by omega) (by omega) (by omega), o1 (hc + 1) (by omega) (by omega) (by omega)]
  · rw [o6 (hc + 2) (by omega), o5 (hc + 2) (by omega) (by omega) (by omega), o4 (hc + 2) (by omega) (by omega) (by omega), o3 (hc + 2) (by omega), o2 (hc + 2) (by omega) (by omega) (by omega), o1 (hc + 2) (by omega) (by omega) (by omega)]
  · rw [o6 (hc + 3) (by omega), o5 (hc + 3) (by omega) (by omega) (by omega), o4 (hc + 3) (by omega) (by omega) (by omega), o3 (hc + 3) (by omega), o2 (hc + 3) (by omega) (by omega) (by omega), o1 (hc + 3) (by omega) (by omega) (by omega)]
  · rw [r4]
    exact hg
  · rw [r4]
    exact hz1
  · rw [r4, e3]
    exact kp_dif_lt kP_pos
theorem d_Cu_followLine_0 : decode b_Cu_followLine 0 = .ok (.aload_n 0, 1) := by decide +kernel
theorem d_Cu_followLine_1 : decode b_Cu_followLine 1 = .ok (.getfield 45, 3) := by decide +kernel
theorem d_Cu_followLine_4 : decode b_Cu_followLine 4 = .ok (.aload_n 0, 1) := by decide +kernel
theorem d_Cu_followLine_5 : decode b_Cu_followLine 5 = .ok (.getfield 18, 3) := by decide +kernel
theorem d_Cu_followLine_8 : decode b_Cu_followLine 8 = .ok (.aload_n 0, 1) := by decide +kernel
theorem d_Cu_followLine_9 : decode b_Cu_followLine 9 = .ok (.getfield 18, 3) := by decide +kernel
theorem d_Cu_followLine_12 : decode b_Cu_followLine 12 = .ok (.aload_n 0, 1) := by decide +kernel
theorem d_Cu_followLine_13 : decode b_Cu_followLine 13 = .ok (.getfield 21, 3) := by decide +kernel
theorem d_Cu_followLine_16 : decode b_Cu_followLine 16 = .ok (.invokevirtual 68, 3) := by decide +kernel
theorem d_Cu_followLine_19 : decode b_Cu_followLine 19 = .ok (.aload_n 0, 1) := by decide +kernel
theorem d_Cu_followLine_20 : decode b_Cu_followLine 20 = .ok (.getfield 45, 3) := by decide +kernel
theorem d_Cu_followLine_23 : decode b_Cu_followLine 23 = .ok (.aload_n 0, 1) := by decide +kernel
theorem d_Cu_followLine_24 : decode b_Cu_followLine 24 = .ok (.getfield 27, 3) := by decide +kernel
theorem d_Cu_followLine_27 : decode b_Cu_followLine 27 = .ok (.aload_n 0, 1) := by decide +kernel
theorem d_Cu_followLine_28 : decode b_Cu_followLine 28 = .ok (.getfield 21, 3) := by decide +kernel
theorem d_Cu_followLine_31 : decode b_Cu_followLine 31 = .ok (.aload_n 0, 1) := by decide +kernel
theorem d_Cu_followLine_32 : decode b_Cu_followLine 32 = .ok (.getfield 21, 3) := by decide +kernel
theorem d_Cu_followLine_35 : decode b_Cu_followLine 35 = .ok (.invokevirtual 68, 3) := by decide +kernel
theorem d_Cu_followLine_38 : decode b_Cu_followLine 38 = .ok (.aload_n 0, 1) := by decide +kernel
theorem d_Cu_followLine_39 : decode b_Cu_followLine 39 = .ok (.getfield 45, 3) := by decide +kernel
theorem d_Cu_followLine_42 : decode b_Cu_followLine 42 = .ok (.aload_n 0, 1) := by decide +kernel
theorem d_Cu_followLine_43 : decode b_Cu_followLine 43 = .ok (.getfield 30, 3) := by decide +kernel
theorem d_Cu_followLine_46 : decode b_Cu_followLine 46 = .ok (.aload_n 0, 1) := by decide +kernel
theorem d_Cu_followLine_47 : decode b_Cu_followLine 47 = .ok (.getfield 27, 3) := by decide +kernel
theorem d_Cu_followLine_50 : decode b_Cu_followLine 50 = .ok (.aload_n 0, 1) := by decide +kernel
theorem d_Cu_followLine_51 : decode b_Cu_followLine 51 = .ok (.getfield 21, 3) := by decide +kernel
theorem d_Cu_followLine_54 : decode b_Cu_followLine 54 = .ok (.invokevirtual 68, 3) := by decide +kernel
theorem d_Cu_followLine_57 : decode b_Cu_followLine 57 = .ok (.aload_n 0, 1) := by decide +kernel
theorem d_Cu_followLine_58 : decode b_Cu_followLine 58 = .ok (.getfield 45, 3) := by decide +kernel
theorem d_Cu_followLine_61 : decode b_Cu_followLine 61 = .ok (.aload_n 0, 1) := by decide +kernel
theorem d_Cu_followLine_62 : decode b_Cu_followLine 62 = .ok (.getfield 33, 3) := by decide +kernel
theorem d_Cu_followLine_65 : decode b_Cu_followLine 65 = .ok (.aload_n 0, 1) := by decide +kernel
theorem d_Cu_followLine_66 : decode b_Cu_followLine 66 = .ok (.getfield 9, 3) := by decide +kernel
theorem d_Cu_followLine_69 : decode b_Cu_followLine 69 = .ok (.aload_n 0, 1) := by decide +kernel
theorem d_Cu_followLine_70 : decode b_Cu_followLine 70 = .ok (.getfield 27, 3) := by decide +kernel
theorem d_Cu_followLine_73 : decode b_Cu_followLine 73 = .ok (.invokevirtual 68, 3) := by decide +kernel
theorem d_Cu_followLine_76 : decode b_Cu_followLine 76 = .ok (.aload_n 0, 1) := by decide +kernel
theorem d_Cu_followLine_77 : decode b_Cu_followLine 77 = .ok (.getfield 45, 3) := by decide +kernel
theorem d_Cu_followLine_80 : decode b_Cu_followLine 80 = .ok (.aload_n 0, 1) := by decide +kernel
theorem d_Cu_followLine_81 : decode b_Cu_followLine 81 = .ok (.getfield 9, 3) := by decide +kernel
theorem d_Cu_followLine_84 : decode b_Cu_followLine 84 = .ok (.aload_n 0, 1) := by decide +kernel
theorem d_Cu_followLine_85 : decode b_Cu_followLine 85 = .ok (.getfield 24, 3) := by decide +kernel
theorem d_Cu_followLine_88 : decode b_Cu_followLine 88 = .ok (.aload_n 0, 1) := by decide +kernel
theorem d_Cu_followLine_89 : decode b_Cu_followLine 89 = .ok (.getfield 24, 3) := by decide +kernel
theorem d_Cu_followLine_92 : decode b_Cu_followLine 92 = .ok (.invokevirtual 68, 3) := by decide +kernel
theorem d_Cu_followLine_95 : decode b_Cu_followLine 95 = .ok (.aload_n 0, 1) := by decide +kernel
theorem d_Cu_followLine_96 : decode b_Cu_followLine 96 = .ok (.getfield 45, 3) := by decide +kernel
theorem d_Cu_followLine_99 : decode b_Cu_followLine 99 = .ok (.aload_n 0, 1) := by decide +kernel
theorem d_Cu_followLine_100 : decode b_Cu_followLine 100 = .ok (.getfield 9, 3) := by decide +kernel
theorem d_Cu_followLine_103 : decode b_Cu_followLine 103 = .ok (.aload_n 0, 1) := by decide +kernel
theorem d_Cu_followLine_104 : decode b_Cu_followLine 104 = .ok (.getfield 9, 3) := by decide +kernel
theorem d_Cu_followLine_107 : decode b_Cu_followLine 107 = .ok (.aload_n 0, 1) := by decide +kernel
theorem d_Cu_followLine_108 : decode b_Cu_followLine 108 = .ok (.getfield 30, 3) := by decide +kernel
theorem d_Cu_followLine_111 : decode b_Cu_followLine 111 = .ok (.invokevirtual 82, 3) := by decide +kernel
theorem d_Cu_followLine_114 : decode b_Cu_followLine 114 = .ok (.aload_n 0, 1) := by decide +kernel
theorem d_Cu_followLine_115 : decode b_Cu_followLine 115 = .ok (.getfield 45, 3) := by decide +kernel
theorem d_Cu_followLine_118 : decode b_Cu_followLine 118 = .ok (.aload_n 0, 1) := by decide +kernel
theorem d_Cu_followLine_119 : decode b_Cu_followLine 119 = .ok (.getfield 9, 3) := by decide +kernel
theorem d_Cu_followLine_122 : decode b_Cu_followLine 122 = .ok (.aload_n 0, 1) := by decide +kernel
theorem d_Cu_followLine_123 : decode b_Cu_followLine 123 = .ok (.getfield 9, 3) := by decide +kernel
theorem d_Cu_followLine_126 : decode b_Cu_followLine 126 = .ok (.aload_n 0, 1) := by decide +kernel
theorem d_Cu_followLine_127 : decode b_Cu_followLine 127 = .ok (.getfield 33, 3) := by decide +kernel
theorem d_Cu_followLine_130 : decode b_Cu_followLine 130 = .ok (.invokevirtual 82, 3) := by decide +kernel
theorem d_Cu_followLine_133 : decode b_Cu_followLine 133 = .ok (.aload_n 0, 1) := by decide +kernel
theorem d_Cu_followLine_134 : decode b_Cu_followLine 134 = .ok (.getfield 45, 3) := by decide +kernel
theorem d_Cu_followLine_137 : decode b_Cu_followLine 137 = .ok (.aload_n 0, 1) := by decide +kernel
theorem d_Cu_followLine_138 : decode b_Cu_followLine 138 = .ok (.getfield 9, 3) := by decide +kernel
theorem d_Cu_followLine_141 : decode b_Cu_followLine 141 = .ok (.aload_n 0, 1) := by decide +kernel
theorem d_Cu_followLine_142 : decode b_Cu_followLine 142 = .ok (.getfield 9, 3) := by decide +kernel
theorem d_Cu_followLine_145 : decode b_Cu_followLine 145 = .ok (.aload_n 0, 1) := by decide +kernel
theorem d_Cu_followLine_146 : decode b_Cu_followLine 146 = .ok (.getfield 33, 3) := by decide +kernel
theorem d_Cu_followLine_149 : decode b_Cu_followLine 149 = .ok (.invokevirtual 82, 3) := by decide +kernel
theorem d_Cu_followLine_152 : decode b_Cu_followLine 152 = .ok (.aload_n 0, 1) := by decide +kernel
theorem d_Cu_followLine_153 : decode b_Cu_followLine 153 = .ok (.getfield 45, 3) := by decide +kernel
theorem d_Cu_followLine_156 : decode b_Cu_followLine 156 = .ok (.aload_n 0, 1) := by decide +kernel
theorem d_Cu_followLine_157 : decode b_Cu_followLine 157 = .ok (.getfield 33, 3) := by decide +kernel
theorem d_Cu_followLine_160 : decode b_Cu_followLine 160 = .ok (.aload_n 0, 1) := by decide +kernel
theorem d_Cu_followLine_161 : decode b_Cu_followLine 161 = .ok (.getfield 33, 3) := by decide +kernel
theorem d_Cu_followLine_164 : decode b_Cu_followLine 164 = .ok (.aload_n 0, 1) := by decide +kernel
theorem d_Cu_followLine_165 : decode b_Cu_followLine 165 = .ok (.getfield 9, 3) := by decide +kernel
theorem d_Cu_followLine_168 : decode b_Cu_followLine 168 = .ok (.invokevirtual 82, 3) := by decide +kernel
theorem d_Cu_followLine_171 : decode b_Cu_followLine 171 = .ok (.aload_n 0, 1) := by decide +kernel
theorem d_Cu_followLine_172 : decode b_Cu_followLine 172 = .ok (.getfield 45, 3) := by decide +kernel
theorem d_Cu_followLine_175 : decode b_Cu_followLine 175 = .ok (.aload_n 0, 1) := by decide +kernel
theorem d_Cu_followLine_176 : decode b_Cu_followLine 176 = .ok (.getfield 30, 3) := by decide +kernel
theorem d_Cu_followLine_179 : decode b_Cu_followLine 179 = .ok (.aload_n 0, 1) := by decide +kernel
theorem d_Cu_followLine_180 : decode b_Cu_followLine 180 = .ok (.getfield 30, 3) := by decide +kernel
theorem d_Cu_followLine_183 : decode b_Cu_followLine 183 = .ok (.aload_n 0, 1) := by decide +kernel
theorem d_Cu_followLine_184 : decode b_Cu_followLine 184 = .ok (.getfield 15, 3) := by decide +kernel
theorem d_Cu_followLine_187 : decode b_Cu_followLine 187 = .ok (.invokevirtual 68, 3) := by decide +kernel
theorem d_Cu_followLine_190 : decode b_Cu_followLine 190 = .ok (.aload_n 0, 1) := by decide +kernel
theorem d_Cu_followLine_191 : decode b_Cu_followLine 191 = .ok (.getfield 45, 3) := by decide +kernel
theorem d_Cu_followLine_194 : decode b_Cu_followLine 194 = .ok (.aload_n 0, 1) := by decide +kernel
theorem d_Cu_followLine_195 : decode b_Cu_followLine 195 = .ok (.getfield 15, 3) := by decide +kernel
theorem d_Cu_followLine_198 : decode b_Cu_followLine 198 = .ok (.aload_n 0, 1) := by decide +kernel
theorem d_Cu_followLine_199 : decode b_Cu_followLine 199 = .ok (.getfield 24, 3) := by decide +kernel
theorem d_Cu_followLine_202 : decode b_Cu_followLine 202 = .ok (.aload_n 0, 1) := by decide +kernel
theorem d_Cu_followLine_203 : decode b_Cu_followLine 203 = .ok (.getfield 33, 3) := by decide +kernel
theorem d_Cu_followLine_206 : decode b_Cu_followLine 206 = .ok (.invokevirtual 68, 3) := by decide +kernel
theorem d_Cu_followLine_209 : decode b_Cu_followLine 209 = .ok (.aload_n 0, 1) := by decide +kernel
theorem d_Cu_followLine_210 : decode b_Cu_followLine 210 = .ok (.getfield 45, 3) := by decide +kernel
theorem d_Cu_followLine_213 : decode b_Cu_followLine 213 = .ok (.aload_n 0, 1) := by decide +kernel
theorem d_Cu_followLine_214 : decode b_Cu_followLine 214 = .ok (.getfield 15, 3) := by decide +kernel
theorem d_Cu_followLine_217 : decode b_Cu_followLine 217 = .ok (.aload_n 0, 1) := by decide +kernel
theorem d_Cu_followLine_218 : decode b_Cu_followLine 218 = .ok (.getfield 15, 3) := by decide +kernel
theorem d_Cu_followLine_221 : decode b_Cu_followLine 221 = .ok (.aload_n 0, 1) := by decide +kernel
theorem d_Cu_followLine_222 : decode b_Cu_followLine 222 = .ok (.getfield 30, 3) := by decide +kernel
theorem d_Cu_followLine_225 : decode b_Cu_followLine 225 = .ok (.invokevirtual 82, 3) := by decide +kernel
theorem d_Cu_followLine_228 : decode b_Cu_followLine 228 = .ok (.return_, 1) := by decide +kernel
set_option maxHeartbeats 4000000 in
set_option maxRecDepth 100000 in
theorem c_Cu_followLine (l : Launch) (E : kr_E) (A : Nat → Nat) (h pa ga gw G hc : Nat) (v : Nat → Nat) (H : Heap) (hE : kr_ok E) (hA : kr_A E A) (hP : kr_P E h pa ga gw kP G) (hV : kr_V E hc h) (hW : kr_W E v H) (q0 : Nat × Nat) (bx by1 : Nat) (hrep : kc_rep (some q0) (v (hc + 1)) (v (hc + 2)) (v (hc + 3))) (hbx : bx < kP) (hby : by1 < kP) (g1 : kj_f (v (hc + 4)) = kj_f bx * (kj_f (v (hc + 3)) * kj_f (v (hc + 3))) - kj_f (v (hc + 1))) (g2 : kj_f (v (hc + 5)) = kj_f by1 * (kj_f (v (hc + 3)) * kj_f (v (hc + 3)) * kj_f (v (hc + 3))) - kj_f (v (hc + 2))) (hrl : v (hc + 4) < kP) (hr0 : v (hc + 4) ≠ 0) (hne : q0.1 ≠ bx) : Met l y_Cu_followLine w_Cu_followLine ({ frames := 3, cells := 0, slots := 0, locals := 75 }) (kq_P [.ref hc] H (kr_C E A)) (kq_Q (fun o1 H1 => o1 = none ∧ ∃ w : Nat → Nat, kr_W E w H1 ∧ kc_rep (kc_join (some q0) bx by1) (w (hc + 1)) (w (hc + 2)) (w (hc + 3)) ∧ ∀ q, ¬ kr_fr h hc q → w q = v q)) 0 0 (kr_fr h hc) := by
  refine Met.ofW (cc := b_Cu_followLine) (maxL := 1) (ret := none) (by decide) rfl ?_
  intro p e s m args below meth c s₁ B0 hml hv
  obtain ⟨rfl, hH, hC⟩ := hv
  have hx := B0.exec
  have hb := B0.bytes
  have hret := B0.returns
  have hts := atoms_spec (ws := w_Cu_followLine) B0.pre
  have hown : s.vm.findClass R_Cu = some m.cls := findClass_of_methodNamed B0.named
  have hlocks := B0.notSynchronized
  rw [hH]
  have hl := lv_entry ([.ref hc]) (n := 1) (Nat.le_of_ble_eq_true rfl)
  rw [lg_entry_eq]
  generalize (lg_sl ([.ref hc]) ++ List.replicate (1 - (lg_sl ([.ref hc])).length) Slot.unset).toArray = ls at hl ⊢
  have hl : lv_has ls 1 [(0, .ref hc)] := hl
  have hB := hC.1
  have hT := kr_T hE hB
  have hK := hB.1
  have hhc := hV.2.2.2
  have hlc0 : ∀ q ∈ ([] : List Loc), kr_fr h hc q.base := fun q h => by cases h
  have hOc0 := kr_obj hW hV.1 hV.2.1
  have hOp0 := kr_obj hW hP.1 hP.2.1
  refine lv_aload_n hx hb d_Cu_followLine_0 rfl (lv_at hl 0 rfl) ?_
  refine kq_get hx hb hts kt_F_Cu hown hK hOc0 rfl 0 (by decide) kt_w99 rfl d_Cu_followLine_1 ?_
  refine lv_aload_n hx hb d_Cu_followLine_4 rfl (lv_at hl 0 rfl) ?_
  refine kq_get hx hb hts kt_F_Cu hown hK hOc0 rfl 3 (by decide) kt_w102 rfl d_Cu_followLine_5 ?_
  refine lv_aload_n hx hb d_Cu_followLine_8 rfl (lv_at hl 0 rfl) ?_
  refine kq_get hx hb hts kt_F_Cu hown hK hOc0 rfl 3 (by decide) kt_w102 rfl d_Cu_followLine_9 ?_
  refine lv_aload_n hx hb d_Cu_followLine_12 rfl (lv_at hl 0 rfl) ?_
  refine kq_get hx hb hts kt_F_Cu hown hK hOc0 rfl 4 (by decide) kt_w103 rfl d_Cu_followLine_13 ?_
  refine kq_call (va_runV (As := [.ref (hc + 3), .ref (hc + 3), .ref (hc + 4)]) (rest := []) ⟨hx, hb, hml, hown, hts⟩ (c_Pr_product l E h pa ga gw kP G v H hE hP hW (hc + 3) (hc + 3) (hc + 4) (hV.2.2.1 3 (by decide) (by decide)) (Or.inl (hV.2.2.1 3 (by decide) (by decide))) (Or.inl (hV.2.2.1 4 (by decide) (by decide)))) (cwV 3 hts (kt_inV kt_w206 kt_w260 kt_w204 kt_w205 kt_w3) rfl rfl rfl (by decide +kernel) ⟨Nat.le_of_ble_eq_true rfl, Nat.le_of_ble_eq_true rfl⟩) (kq_preV (kr_st E) (hC.1) (kq_recv hC.1.1 hOp0 rfl)) rfl rfl hl.1 rfl (lv_room (Nat.le_of_ble_eq_true rfl)) d_Cu_followLine_16 ⟨Nat.zero_le _, Nat.zero_le _⟩) (fun u1 H1 L1 hq1 hL1 => ?_)
  obtain ⟨rfl, w1, hW1, f1, o1⟩ := hq1
  refine W.eq (g2 := F0 m 19 ls []) rfl ?_
  have hlc1 := t_lL (free := kr_fr h hc) hlc0 (fun q z => by rcases hL1 q z with z | z | z <;> (rw [z]; unfold kr_fr; omega))
  have e1 : w1 (hc + 3) = v (hc + 3) * v (hc + 4) % kP := by rw [f1]
  have hOc1 := kr_obj hW1 hV.1 hV.2.1
  have hOp1 := kr_obj hW1 hP.1 hP.2.1
  refine lv_aload_n hx hb d_Cu_followLine_19 rfl (lv_at hl 0 rfl) ?_
  refine kq_get hx hb hts kt_F_Cu hown hK hOc1 rfl 0 (by decide) kt_w99 rfl d_Cu_followLine_20 ?_
  refine lv_aload_n hx hb d_Cu_followLine_23 rfl (lv_at hl 0 rfl) ?_
  refine kq_get hx hb hts kt_F_Cu hown hK hOc1 rfl 6 (by decide) kt_w105 rfl d_Cu_followLine_24 ?_
  refine lv_aload_n hx hb d_Cu_followLine_27 rfl (lv_at hl 0 rfl) ?_
  refine kq_get hx hb hts kt_F_Cu hown hK hOc1 rfl 4 (by decide) kt_w103 rfl d_Cu_followLine_28 ?_
  refine lv_aload_n hx hb d_Cu_followLine_31 rfl (lv_at hl 0 rfl) ?_
  refine kq_get hx hb hts kt_F_Cu hown hK hOc1 rfl 4 (by decide) kt_w103 rfl d_Cu_followLine_32 ?_
  refine kq_call (va_runV (As := [.ref (hc + 6), .ref (hc + 4), .ref (hc + 4)]) (rest := []) ⟨hx, hb, hml, hown, hts⟩ (c_Pr_product l E h pa ga gw kP G w1 H1 hE hP hW1 (hc + 6) (hc + 4) (hc + 4) (hV.2.2.1 6 (by decide) (by decide)) (Or.inl (hV.2.2.1 4 (by decide) (by decide))) (Or.inl (hV.2.2.1 4 (by decide) (by decide)))) (cwV 3 hts (kt_inV kt_w206 kt_w260 kt_w204 kt_w205 kt_w3) rfl rfl rfl (by decide +kernel) ⟨Nat.le_of_ble_eq_true rfl, Nat.le_of_ble_eq_true rfl⟩) (kq_preV (kr_st E) (hC.1) (kq_recv hC.1.1 hOp1 rfl)) rfl rfl hl.1 rfl (lv_room (Nat.le_of_ble_eq_true rfl)) d_Cu_followLine_35 ⟨Nat.zero_le _, Nat.zero_le _⟩) (fun u2 H2 L2 hq2 hL2 => ?_)
  obtain ⟨rfl, w2, hW2, f2, o2⟩ := hq2
  refine W.eq (g2 := F0 m 38 ls []) rfl ?_
  have hlc2 := t_lL (free := kr_fr h hc) hlc1 (fun q z => by rcases hL2 q z with z | z | z <;> (rw [z]; unfold kr_fr; omega))
  have e2 : w2 (hc + 6) = v (hc + 4) * v (hc + 4) % kP := by rw [f2, o1 (hc + 4) (by omega) (by omega) (by omega)]
  have hOc2 := kr_obj hW2 hV.1 hV.2.1
  have hOp2 := kr_obj hW2 hP.1 hP.2.1
  refine lv_aload_n hx hb d_Cu_followLine_38 rfl (lv_at hl 0 rfl) ?_
  refine kq_get hx hb hts kt_F_Cu hown hK hOc2 rfl 0 (by decide) kt_w99 rfl d_Cu_followLine_39 ?_
  refine lv_aload_n hx hb d_Cu_followLine_42 rfl (lv_at hl 0 rfl) ?_
  refine kq_get hx hb hts kt_F_Cu hown hK hOc2 rfl 7 (by decide) kt_w106 rfl d_Cu_followLine_43 ?_
  refine lv_aload_n hx hb d_Cu_followLine_46 rfl (lv_at hl 0 rfl) ?_
  refine kq_get hx hb hts kt_F_Cu hown hK hOc2 rfl 6 (by decide) kt_w105 rfl d_Cu_followLine_47 ?_
  refine lv_aload_n hx hb d_Cu_followLine_50 rfl (lv_at hl 0 rfl) ?_
  refine kq_get hx hb hts kt_F_Cu hown hK hOc2 rfl 4 (by decide) kt_w103 rfl d_Cu_followLine_51 ?_
  refine kq_call (va_runV (As := [.ref (hc + 7), .ref (hc + 6), .ref (hc + 4)]) (rest := []) ⟨hx, hb, hml, hown, hts⟩ (c_Pr_product l E h pa ga gw kP G w2 H2 hE hP hW2 (hc + 7) (hc + 6) (hc + 4) (hV.2.2.1 7 (by decide) (by decide)) (Or.inl (hV.2.2.1 6 (by decide) (by decide))) (Or.inl (hV.2.2.1 4 (by decide) (by decide)))) (cwV 3 hts (kt_inV kt_w206 kt_w260 kt_w204 kt_w205 kt_w3) rfl rfl rfl (by decide +kernel) ⟨Nat.le_of_ble_eq_true rfl, Nat.le_of_ble_eq_true rfl⟩) (kq_preV (kr_st E) (hC.1) (kq_recv hC.1.1 hOp2 rfl)) rfl rfl hl.1 rfl (lv_room (Nat.le_of_ble_eq_true rfl)) d_Cu_followLine_54 ⟨Nat.zero_le _, Nat.zero_le _⟩) (fun u3 H3 L3 hq3 hL3 => ?_)
  obtain ⟨rfl, w3, hW3, f3, o3⟩ := hq3
  refine W.eq (g2 := F0 m 57 ls []) rfl ?_
  have hlc3 := t_lL (free := kr_fr h hc) hlc2 (fun q z => by rcases hL3 q z with z | z | z <;> (rw [z]; unfold kr_fr; omega))
  have e3 : w3 (hc + 7) = w2 (hc + 6) * v (hc + 4) % kP := by rw [f3, o2 (hc + 4) (by omega) (by omega) (by omega), o1 (hc + 4) (by omega) (by omega) (by omega)]
  have hOc3 := kr_obj hW3 hV.1 hV.2.1
  have hOp3 := kr_obj hW3 hP.1 hP.2.1
  refine lv_aload_n hx hb d_Cu_followLine_57 rfl (lv_at hl 0 rfl) ?_
  refine kq_get hx hb hts kt_F_Cu hown hK hOc3 rfl 0 (by decide) kt_w99 rfl d_Cu_followLine_58 ?_
  refine lv_aload_n hx hb d_Cu_followLine_61 rfl (lv_at hl 0 rfl) ?_
  refine kq_get hx hb hts kt_F_Cu hown hK hOc3 rfl 8 (by decide) kt_w107 rfl d_Cu_followLine_62 ?_
  refine lv_aload_n hx hb d_Cu_followLine_65 rfl (lv_at hl 0 rfl) ?_
  refine kq_get hx hb hts kt_F_Cu hown hK hOc3 rfl 1 (by decide) kt_w100 rfl d_Cu_followLine_66 ?_
  refine lv_aload_n hx hb d_Cu_followLine_69 rfl (lv_at hl 0 rfl) ?_
  refine kq_get hx hb hts kt_F_Cu hown hK hOc3 rfl 6 (by decide) kt_w105 rfl d_Cu_followLine_70 ?_
  refine kq_call (va_runV (As := [.ref (hc + 8), .ref (hc + 1), .ref (hc + 6)]) (rest := []) ⟨hx, hb, hml, hown, hts⟩ (c_Pr_product l E h pa ga gw kP G w3 H3 hE hP hW3 (hc + 8) (hc + 1) (hc + 6) (hV.2.2.1 8 (by decide) (by decide)) (Or.inl (hV.2.2.1 1 (by decide) (by decide))) (Or.inl (hV.2.2.1 6 (by decide) (by decide)))) (cwV 3 hts (kt_inV kt_w206 kt_w260 kt_w204 kt_w205 kt_w3) rfl rfl rfl (by decide +kernel) ⟨Nat.le_of_ble_eq_true rfl, Nat.le_of_ble_eq_true rfl⟩) (kq_preV (kr_st E) (hC.1) (kq_recv hC.1.1 hOp3 rfl)) rfl rfl hl.1 rfl (lv_room (Nat.le_of_ble_eq_true rfl)) d_Cu_followLine_73 ⟨Nat.zero_le _, Nat.zero_le _⟩) (fun u4 H4 L4 hq4 hL4 => ?_)
  obtain ⟨rfl, w4, hW4, f4, o4⟩ := hq4
  refine W.eq (g2 := F0 m 76 ls []) rfl ?_
  have hlc4 := t_lL (free := kr_fr h hc) hlc3 (fun q z => by rcases hL4 q z with z | z | z <;> (rw [z]; unfold kr_fr; omega))
  have e4 : w4 (hc + 8) = v (hc + 1) * w2 (hc + 6) % kP := by rw [f4, o3 (hc + 1) (by omega) (by omega) (by omega), o2 (hc + 1) (by omega) (by omega) (by omega), o1 (hc + 1) (by omega) (by omega) (by omega), o3 (hc + 6) (by omega) (by omega) (by omega)]
  have hOc4 := kr_obj hW4 hV.1 hV.2.1
  have hOp4 := kr_obj hW4 hP.1 hP.2.1
  refine lv_aload_n hx hb d_Cu_followLine_76 rfl (lv_at hl 0 rfl) ?_
  refine kq_get hx hb hts kt_F_Cu hown hK hOc4 rfl 0 (by decide) kt_w99 rfl d_Cu_followLine_77 ?_
  refine lv_aload_n hx hb d_Cu_followLine_80 rfl (lv_at hl 0 rfl) ?_
  refine kq_get hx hb hts kt_F_Cu hown hK hOc4 rfl 1 (by decide) kt_w100 rfl d_Cu_followLine_81 ?_
  refine lv_aload_n hx hb d_Cu_followLine_84 rfl (lv_at hl 0 rfl) ?_
  refine kq_get hx hb hts kt_F_Cu hown hK hOc4 rfl 5 (by decide) kt_w104 rfl d_Cu_followLine_85 ?_
  refine lv_aload_n hx hb d_Cu_followLine_88 rfl (lv_at hl 0 rfl) ?_
  refine kq_get hx hb hts kt_F_Cu hown hK hOc4 rfl 5 (by decide) kt_w104 rfl d_Cu_followLine_89 ?_
  refine kq_call (va_runV (As := [.ref (hc + 1), .ref (hc + 5), .ref (hc + 5)]) (rest := []) ⟨hx, hb, hml, hown, hts⟩ (c_Pr_product l E h pa ga gw kP G w4 H4 hE hP hW4 (hc + 1) (hc + 5) (hc + 5) (hV.2.2.1 1 (by decide) (by decide)) (Or.inl (hV.2.2.1 5 (by decide) (by decide))) (Or.inl (hV.2.2.1 5 (by decide) (by decide)))) (cwV 3 hts (kt_inV kt_w206 kt_w260 kt_w204 kt_w205 kt_w3) rfl rfl rfl (by decide +kernel) ⟨Nat.le_of_ble_eq_true rfl, Nat.le_of_ble_eq_true rfl⟩) (kq_preV (kr_st E) (hC.1) (kq_recv hC.1.1 hOp4 rfl)) rfl rfl hl.1 rfl (lv_room (Nat.le_of_ble_eq_true rfl)) d_Cu_followLine_92 ⟨Nat.zero_le _, Nat.zero_le _⟩) (fun u5 H5 L5 hq5 hL5 => ?_)
  obtain ⟨rfl, w5, hW5, f5, o5⟩ := hq5
  refine W.eq (g2 := F0 m 95 ls []) rfl ?_
  have hlc5 := t_lL (free := kr_fr h hc) hlc4 (fun q z => by rcases hL5 q z with z | z | z <;> (rw [z]; unfold kr_fr; omega))
  have e5 : w5 (hc + 1) = v (hc + 5) * v (hc + 5) % kP := by rw [f5, o4 (hc + 5) (by omega) (by omega) (by omega), o3 (hc + 5) (by omega) (by omega) (by omega), o2 (hc + 5) (by omega) (by omega) (by omega), o1 (hc + 5) (by omega) (by omega) (by omega)]
  have hOc5 := kr_obj hW5 hV.1 hV.2.1
  have hOp5 := kr_obj hW5 hP.1 hP.2.1
  refine lv_aload_n hx hb d_Cu_followLine_95 rfl (lv_at hl 0 rfl) ?_
  refine kq_get hx hb hts kt_F_Cu hown hK hOc5 rfl 0 (by decide) kt_w99 rfl d_Cu_followLine_96 ?_
  refine lv_aload_n hx hb d_Cu_followLine_99 rfl (lv_at hl 0 rfl) ?_
  refine kq_get hx hb hts kt_F_Cu hown hK hOc5 rfl 1 (by decide) kt_w100 rfl d_Cu_followLine_100 ?_
  refine lv_aload_n hx hb d_Cu_followLine_103 rfl (lv_at hl 0 rfl) ?_
  refine kq_get hx hb hts kt_F_Cu hown hK hOc5 rfl 1 (by decide) kt_w100 rfl d_Cu_followLine_104 ?_
  refine lv_aload_n hx hb d_Cu_followLine_107 rfl (lv_at hl 0 rfl) ?_
  refine kq_get hx hb hts kt_F_Cu hown hK hOc5 rfl 7 (by decide) kt_w106 rfl d_Cu_followLine_108 ?_
  refine kq_call (va_runV (As := [.ref (hc + 1), .ref (hc + 1), .ref (hc + 7)]) (rest := []) ⟨hx, hb, hml, hown, hts⟩ (c_Pr_difference l E h pa ga gw kP G w5 H5 hE hP hW5 (hc + 1) (hc + 1) (hc + 7) (hV.2.2.1 1 (by decide) (by decide)) (Or.inl (hV.2.2.1 1 (by decide) (by decide))) (Or.inl (hV.2.2.1 7 (by decide) (by decide)))) (cwV 3 hts (kt_inV kt_w198 kt_w268 kt_w196 kt_w197 kt_w3) rfl rfl rfl (by decide +kernel) ⟨Nat.le_of_ble_eq_true rfl, Nat.le_of_ble_eq_true rfl⟩) (kq_preV (kr_st E) (hC.1) (kq_recv hC.1.1 hOp5 rfl)) rfl rfl hl.1 rfl (lv_room (Nat.le_of_ble_eq_true rfl)) d_Cu_followLine_111 ⟨Nat.zero_le _, Nat.zero_le _⟩) (fun u6 H6 L6 hq6 hL6 => ?_)
  obtain ⟨rfl, hX6⟩ := hq6
  refine W.eq (g2 := F0 m 114 ls []) rfl ?_
  obtain ⟨w6, f6, o6, hW6⟩ : ∃ w : Nat → Nat, w (hc + 1) = kp_dif kP (w5 (hc + 1)) (w5 (hc + 7)) ∧ (∀ q, q ≠ hc + 1 → w q = w5 q) ∧ kr_W E w H6 := ⟨_, kq_up_at, fun q hq => kq_up_ne hq, hX6⟩
  have hlc6 := t_lL (free := kr_fr h hc) hlc5 (fun q z => by rw [hL6 q z]; unfold kr_fr; omega)
  have e6 : w6 (hc + 1) = kp_dif kP (w5 (hc + 1)) (w3 (hc + 7)) := by rw [f6, o5 (hc + 7) (by omega) (by omega) (by omega), o4 (hc + 7) (by omega) (by omega) (by omega)]
  have hOc6 := kr_obj hW6 hV.1 hV.2.1
  have hOp6 := kr_obj hW6 hP.1 hP.2.1
  refine lv_aload_n hx hb d_Cu_followLine_114 rfl (lv_at hl 0 rfl) ?_
  refine kq_get hx hb hts kt_F_Cu hown hK hOc6 rfl 0 (by decide) kt_w99 rfl d_Cu_followLine_115 ?_
  refine lv_aload_n hx hb d_Cu_followLine_118 rfl (lv_at hl 0 rfl) ?_
  refine kq_get hx hb hts kt_F_Cu hown hK hOc6 rfl 1 (by decide) kt_w100 rfl d_Cu_followLine_119 ?_
  refine lv_aload_n hx hb d_Cu_followLine_122 rfl (lv_at hl 0 rfl) ?_
  refine kq_get hx hb hts kt_F_Cu hown hK hOc6 rfl 1 (by decide) kt_w100 rfl d_Cu_followLine_123 ?_
  refine lv_aload_n hx hb d_Cu_followLine_126 rfl (lv_at hl 0 rfl) ?_
  refine kq_get hx hb hts kt_F_Cu hown hK hOc6 rfl 8 (by decide) kt_w107 rfl d_Cu_followLine_127 ?_
  refine kq_call (va_runV (As := [.ref (hc + 1), .ref (hc + 1), .ref (hc + 8)]) (rest := []) ⟨hx, hb, hml, hown, hts⟩ (c_Pr_difference l E h pa ga gw kP G w6 H6 hE hP hW6 (hc + 1) (hc + 1) (hc + 8) (hV.2.2.1 1 (by decide) (by decide)) (Or.inl (hV.2.2.1 1 (by decide) (by decide))) (Or.inl (hV.2.2.1 8 (by decide) (by decide)))) (cwV 3 hts (kt_inV kt_w198 kt_w268 kt_w196 kt_w197 kt_w3) rfl rfl rfl (by decide +kernel) ⟨Nat.le_of_ble_eq_true rfl, Nat.le_of_ble_eq_true rfl⟩) (kq_preV (kr_st E) (hC.1) (kq_recv hC.1.1 hOp6 rfl)) rfl rfl hl.1 rfl (lv_room (Nat.le_of_ble_eq_true rfl)) d_Cu_followLine_130 ⟨Nat.zero_le _, Nat.zero_le _⟩) (fun u7 H7 L7 hq7 hL7 => ?_)
  obtain ⟨rfl, hX7⟩ := hq7
  refine W.eq (g2 := F0 m 133 ls []) rfl ?_
  obtain ⟨w7, f7, o7, hW7⟩ : ∃ w : Nat → Nat, w (hc + 1) = kp_dif kP (w6 (hc + 1)) (w6 (hc + 8)) ∧ (∀ q, q ≠ hc + 1 → w q = w6 q) ∧ kr_W E w H7 := ⟨_, kq_up_at, fun q hq => kq_up_ne hq, hX7⟩
  have hlc7 := t_lL (free := kr_fr h hc) hlc6 (fun q z => by rw [hL7 q z]; unfold kr_fr; omega)
  have e7 : w7 (hc + 1) = kp_dif kP (w6 (hc + 1)) (w4 (hc + 8)) := by rw [f7, o6 (hc + 8) (by omega), o5 (hc + 8) (by omega) (by omega) (by omega)]
  have hOc7 := kr_obj hW7 hV.1 hV.2.1
  have hOp7 := kr_obj hW7 hP.1 hP.2.1
  refine lv_aload_n hx hb d_Cu_followLine_133 rfl (lv_at hl 0 rfl) ?_
  refine kq_get hx hb hts kt_F_Cu hown hK hOc7 rfl 0 (by decide) kt_w99 rfl d_Cu_followLine_134 ?_
  refine lv_aload_n hx hb d_Cu_followLine_137 rfl (lv_at hl 0 rfl) ?_
  refine kq_get hx hb hts kt_F_Cu hown hK hOc7 rfl 1 (by decide) kt_w100 rfl d_Cu_followLine_138 ?_
  refine lv_aload_n hx hb d_Cu_followLine_141 rfl (lv_at hl 0 rfl) ?_
  refine kq_get hx hb hts kt_F_Cu hown hK hOc7 rfl 1 (by decide) kt_w100 rfl d_Cu_followLine_142 ?_
  refine lv_aload_n hx hb d_Cu_followLine_145 rfl (lv_at hl 0 rfl) ?_
  refine kq_get hx hb hts kt_F_Cu hown hK hOc7 rfl 8 (by decide) kt_w107 rfl d_Cu_followLine_146 ?_
  refine kq_call (va_runV (As := [.ref (hc + 1), .ref (hc + 1), .ref (hc + 8)]) (rest := []) ⟨hx, hb, hml, hown, hts⟩ (c_Pr_difference l E h pa ga gw kP G w7 H7 hE hP hW7 (hc + 1) (hc + 1) (hc + 8) (hV.2.2.1 1 (by decide) (by decide)) (Or.inl (hV.2.2.1 1 (by decide) (by decide))) (Or.inl (hV.2.2.1 8 (by decide) (by decide)))) (cwV 3 hts (kt_inV kt_w198 kt_w268 kt_w196 kt_w197 kt_w3) rfl rfl rfl (by decide +kernel) ⟨Nat.le_of_ble_eq_true rfl, Nat.le_of_ble_eq_true rfl⟩) (kq_preV (kr_st E) (hC.1) (kq_recv hC.1.1 hOp7 rfl)) rfl rfl hl.1 rfl (lv_room (Nat.le_of_ble_eq_true rfl)) d_Cu_followLine_149 ⟨Nat.zero_le _, Nat.zero_le _⟩) (fun u8 H8 L8 hq8 hL8 => ?_)
  obtain ⟨rfl, hX8⟩ := hq8
  refine W.eq (g2 := F0 m 152 ls []) rfl ?_
  obtain ⟨w8, f8, o8, hW8⟩ : ∃ w : Nat → Nat, w (hc + 1) = kp_dif kP (w7 (hc + 1)) (w7 (hc + 8)) ∧ (∀ q, q ≠ hc + 1 → w q = w7 q) ∧ kr_W E w H8 := ⟨_, kq_up_at, fun q hq => kq_up_ne hq, hX8⟩
  have hlc8 := t_lL (free := kr_fr h hc) hlc7 (fun q z => by rw [hL8 q z]; unfold kr_fr; omega)
  have e8 : w8 (hc + 1) = kp_dif kP (w7 (hc + 1)) (w4 (hc + 8)) := by rw [f8, o7 (hc + 8) (by omega), o6 (hc + 8) (by omega), o5 (hc + 8) (by omega) (by omega) (by omega)]
  have hOc8 := kr_obj hW8 hV.1 hV.2.1
  have hOp8 := kr_obj hW8 hP.1 hP.2.1
  refine lv_aload_n hx hb d_Cu_followLine_152 rfl (lv_at hl 0 rfl) ?_
  refine kq_get hx hb hts kt_F_Cu hown hK hOc8 rfl 0 (by decide) kt_w99 rfl d_Cu_followLine_153 ?_
  refine lv_aload_n hx hb d_Cu_followLine_156 rfl (lv_at hl 0 rfl) ?_
  refine kq_get hx hb hts kt_F_Cu hown hK hOc8 rfl 8 (by decide) kt_w107 rfl d_Cu_followLine_157 ?_
  refine lv_aload_n hx hb d_Cu_followLine_160 rfl (lv_at hl 0 rfl) ?_
  refine kq_get hx hb hts kt_F_Cu hown hK hOc8 rfl 8 (by decide) kt_w107 rfl d_Cu_followLine_161 ?_
  refine lv_aload_n hx hb d_Cu_followLine_164 rfl (lv_at hl 0 rfl) ?_
  refine kq_get hx hb hts kt_F_Cu hown hK hOc8 rfl 1 (by decide) kt_w100 rfl d_Cu_followLine_165 ?_
  refine kq_call (va_runV (As := [.ref (hc + 8), .ref (hc + 8), .ref (hc + 1)]) (rest := []) ⟨hx, hb, hml, hown, hts⟩ (c_Pr_difference l E h pa ga gw kP G w8 H8 hE hP hW8 (hc + 8) (hc + 8) (hc + 1) (hV.2.2.1 8 (by decide) (by decide)) (Or.inl (hV.2.2.1 8 (by decide) (by decide))) (Or.inl (hV.2.2.1 1 (by decide) (by decide)))) (cwV 3 hts (kt_inV kt_w198 kt_w268 kt_w196 kt_w197 kt_w3) rfl rfl rfl (by decide +kernel) ⟨Nat.le_of_ble_eq_true rfl, Nat.le_of_ble_eq_true rfl⟩) (kq_preV (kr_st E) (hC.1) (kq_recv hC.1.1 hOp8 rfl)) rfl rfl hl.1 rfl (lv_room (Nat.le_of_ble_eq_true rfl)) d_Cu_followLine_168 ⟨Nat.zero_le _, Nat.zero_le _⟩) (fun u9 H9 L9 hq9 hL9 => ?_)
  obtain ⟨rfl, hX9⟩ := hq9
  refine W.eq (g2 := F0 m 171 ls []) rfl ?_
  obtain ⟨w9, f9, o9, hW9⟩ : ∃ w : Nat → Nat, w (hc + 8) = kp_dif kP (w8 (hc + 8)) (w8 (hc + 1)) ∧ (∀ q, q ≠ hc + 8 → w q = w8 q) ∧ kr_W E w H9 := ⟨_, kq_up_at, fun q hq => kq_up_ne hq, hX9⟩
  have hlc9 := t_lL (free := kr_fr h hc) hlc8 (fun q z => by rw [hL9 q z]; unfold kr_fr; omega)
  have e9 : w9 (hc + 8) = kp_dif kP (w4 (hc + 8)) (w8 (hc + 1)) := by rw [f9, o8 (hc + 8) (by omega), o7 (hc + 8) (by omega), o6 (hc + 8) (by omega), o5 (hc + 8) (by omega) (by omega) (by omega)]
  have hOc9 := kr_obj hW9 hV.1 hV.2.1
  have hOp9 := kr_obj hW9 hP.1 hP.2.1
  refine lv_aload_n hx hb d_Cu_followLine_171 rfl (lv_at hl 0 rfl) ?_
  refine kq_get hx hb hts kt_F_Cu hown hK hOc9 rfl 0 (by decide) kt_w99 rfl d_Cu_followLine_172 ?_
  refine lv_aload_n hx hb d_Cu_followLine_175 rfl (lv_at hl 0 rfl) ?_
  refine kq_get hx hb hts kt_F_Cu hown hK hOc9 rfl 7 (by decide) kt_w106 rfl d_Cu_followLine_176 ?_
  refine lv_aload_n hx hb d_Cu_followLine_179 rfl (lv_at hl 0 rfl) ?_
  refine kq_get hx hb hts kt_F_Cu hown hK hOc9 rfl 7 (by decide) kt_w106 rfl d_Cu_followLine_180 ?_
  refine lv_aload_n hx hb d_Cu_followLine_183 rfl (lv_at hl 0 rfl) ?_
  refine kq_get hx hb hts kt_F_Cu hown hK hOc9 rfl 2 (by decide) kt_w101 rfl d_Cu_followLine_184 ?_
  refine kq_call (va_runV (As := [.ref (hc + 7), .ref (hc + 7), .ref (hc + 2)]) (rest := []) ⟨hx, hb, hml, hown, hts⟩ (c_Pr_product l E h pa ga gw kP G w9 H9 hE hP hW9 (hc + 7) (hc + 7) (hc + 2) (hV.2.2.1 7 (by decide) (by decide)) (Or.inl (hV.2.2.1 7 (by decide) (by decide))) (Or.inl (hV.2.2.1 2 (by decide) (by decide)))) (cwV 3 hts (kt_inV kt_w206 kt_w260 kt_w204 kt_w205 kt_w3) rfl rfl rfl (by decide +kernel) ⟨Nat.le_of_ble_eq_true rfl, Nat.le_of_ble_eq_true rfl⟩) (kq_preV (kr_st E) (hC.1) (kq_recv hC.1.1 hOp9 rfl)) rfl rfl hl.1 rfl (lv_room (Nat.le_of_ble_eq_true rfl)) d_Cu_followLine_187 ⟨Nat.zero_le _, Nat.zero_le _⟩) (fun u10 H10 L10 hq10 hL10 => ?_)
  obtain ⟨rfl, w10, hW10, f10, o10⟩ := hq10
  refine W.eq (g2 := F0 m 190 ls []) rfl ?_
  have hlc10 := t_lL (free := kr_fr h hc) hlc9 (fun q z => by rcases hL10 q z with z | z | z <;> (rw [z]; unfold kr_fr; omega))
  have e10 : w10 (hc + 7) = w3 (hc + 7) * v (hc + 2) % kP := by rw [f10, o9 (hc + 7) (by omega), o8 (hc + 7) (by omega), o7 (hc + 7) (by omega), o6 (hc + 7) (by omega), o5 (hc + 7) (by omega) (by omega) (by omega), o4 (hc + 7) (by omega) (by omega) (by omega), o9 (hc + 2) (by omega), o8 (hc + 2) (by omega), o7 (hc + 2) (by omega), o6 (hc + 2) (by omega), o5 (hc + 2) (by omega) (by omega) (by omega), o4 (hc + 2) (by omega) (by omega) (by omega), o3 (hc + 2) (by omega) (by omega) (by omega), o2 (hc + 2) (by omega) (by omega) (by omega), o1 (hc + 2) (by omega) (by omega) (by omega)]
  have hOc10 := kr_obj hW10 hV.1 hV.2.1
  have hOp10 := kr_obj hW10 hP.1 hP.2.1
  refine lv_aload_n hx hb d_Cu_followLine_190 rfl (lv_at hl 0 rfl) ?_
  refine kq_get hx hb hts kt_F_Cu hown hK hOc10 rfl 0 (by decide) kt_w99 rfl d_Cu_followLine_191 ?_
  refine lv_aload_n hx hb d_Cu_followLine_194 rfl (lv_at hl 0 rfl) ?_
  refine kq_get hx hb hts kt_F_Cu hown hK hOc10 rfl 2 (by decide) kt_w101 rfl d_Cu_followLine_195 ?_
  refine lv_aload_n hx hb d_Cu_followLine_198 rfl (lv_at hl 0 rfl) ?_
  refine kq_get hx hb hts kt_F_Cu hown hK hOc10 rfl 5 (by decide) kt_w104 rfl d_Cu_followLine_199 ?_
  refine lv_aload_n hx hb d_Cu_followLine_202 rfl (lv_at hl 0 rfl) ?_
  refine kq_get hx hb hts kt_F_Cu hown hK hOc10 rfl 8 (by decide) kt_w107 rfl d_Cu_followLine_203 ?_
  refine kq_call (va_runV (As := [.ref (hc + 2), .ref (hc + 5), .ref (hc + 8)]) (rest := []) ⟨hx, hb, hml, hown, hts⟩ (c_Pr_product l E h pa ga gw kP G w10 H10 hE hP hW10 (hc + 2) (hc + 5) (hc + 8) (hV.2.2.1 2 (by decide) (by decide)) (Or.inl (hV.2.2.1 5 (by decide) (by decide))) (Or.inl (hV.2.2.1 8 (by decide) (by decide)))) (cwV 3 hts (kt_inV kt_w206 kt_w260 kt_w204 kt_w205 kt_w3) rfl rfl rfl (by decide +kernel) ⟨Nat.le_of_ble_eq_true rfl, Nat.le_of_ble_eq_true rfl⟩) (kq_preV (kr_st E) (hC.1) (kq_recv hC.1.1 hOp10 rfl)) rfl rfl hl.1 rfl (lv_room (Nat.le_of_ble_eq_true rfl)) d_Cu_followLine_206 ⟨Nat.zero_le _, Nat.zero_le _⟩) (fun u11 H11 L11 hq11 hL11 => ?_)
  obtain ⟨rfl, w11, hW11, f11, o11⟩ := hq11
  refine W.eq (g2 := F0 m 209 ls []) rfl ?_
  have hlc11 := t_lL (free := kr_fr h hc) hlc10 (fun q z => by rcases hL11 q z with z | z | z <;> (rw [z]; unfold kr_fr; omega))
  have e11 : w11 (hc + 2) = v (hc + 5) * w9 (hc + 8) % kP := by rw [f11, o10 (hc + 5) (by omega) (by omega) (by omega), o9 (hc + 5) (by omega), o8 (hc + 5) (by omega), o7 (hc + 5) (by omega), o6 (hc + 5) (by omega), o5 (hc + 5) (by omega) (by omega) (by omega), o4 (hc + 5) (by omega) (by omega) (by omega), o3 (hc + 5) (by omega) (by omega) (by omega), o2 (hc + 5) (by omega) (by omega) (by omega), o1 (hc + 5) (by omega) (by omega) (by omega), o10 (hc + 8) (by omega) (by omega) (by omega)]
  have hOc11 := kr_obj hW11 hV.1 hV.2.1
  have hOp11 := kr_obj hW11 hP.1 hP.2.1
  refine lv_aload_n hx hb d_Cu_followLine_209 rfl (lv_at hl 0 rfl) ?_
  refine kq_get hx hb hts kt_F_Cu hown hK hOc11 rfl 0 (by decide) kt_w99 rfl d_Cu_followLine_210 ?_
  refine lv_aload_n hx hb d_Cu_followLine_213 rfl (lv_at hl 0 rfl) ?_
  refine kq_get hx hb hts kt_F_Cu hown hK hOc11 rfl 2 (by decide) kt_w101 rfl d_Cu_followLine_214 ?_
  refine lv_aload_n hx hb d_Cu_followLine_217 rfl (lv_at hl 0 rfl) ?_
  refine kq_get hx hb hts kt_F_Cu hown hK hOc11 rfl 2 (by decide) kt_w101 rfl d_Cu_followLine_218 ?_
  refine lv_aload_n hx hb d_Cu_followLine_221 rfl (lv_at hl 0 rfl) ?_
  refine kq_get hx hb hts kt_F_Cu hown hK hOc11 rfl 7 (by decide) kt_w106 rfl d_Cu_followLine_222 ?_
  refine kq_call (va_runV (As := [.ref (hc + 2), .ref (hc + 2), .ref (hc + 7)]) (rest := []) ⟨hx, hb, hml, hown, hts⟩ (c_Pr_difference l E h pa ga gw kP G w11 H11 hE hP hW11 (hc + 2) (hc + 2) (hc + 7) (hV.2.2.1 2 (by decide) (by decide)) (Or.inl (hV.2.2.1 2 (by decide) (by decide))) (Or.inl (hV.2.2.1 7 (by decide) (by decide)))) (cwV 3 hts (kt_inV kt_w198 kt_w268 kt_w196 kt_w197 kt_w3) rfl rfl rfl (by decide +kernel) ⟨Nat.le_of_ble_eq_true rfl, Nat.le_of_ble_eq_true rfl⟩) (kq_preV (kr_st E) (hC.1) (kq_recv hC.1.1 hOp11 rfl)) rfl rfl hl.1 rfl (lv_room (Nat.le_of_ble_eq_true rfl)) d_Cu_followLine_225 ⟨Nat.zero_le _, Nat.zero_le _⟩) (fun u12 H12 L12 hq12 hL12 => ?_)
  obtain ⟨rfl, hX12⟩ := hq12
  refine W.eq (g2 := F0 m 228 ls []) rfl ?_
  obtain ⟨w12, f12, o12, hW12⟩ : ∃ w : Nat → Nat, w (hc + 2) = kp_dif kP (w11 (hc + 2)) (w11 (hc + 7)) ∧ (∀ q, q ≠ hc + 2 → w q = w11 q) ∧ kr_W E w H12 := ⟨_, kq_up_at, fun q hq => kq_up_ne hq, hX12⟩
  have hlc12 := t_lL (free := kr_fr h hc) hlc11 (fun q z => by rw [hL12 q z]; unfold kr_fr; omega)
  have e12 : w12 (hc + 2) = kp_dif kP (w11 (hc + 2)) (w10 (hc + 7)) := by rw [f12, o11 (hc + 7) (by omega) (by omega) (by omega)]
  have hOc12 := kr_obj hW12 hV.1 hV.2.1
  have hOp12 := kr_obj hW12 hP.1 hP.2.1
  have hrep2 := kc_rep_follow hrep hbx hby g1 g2 hrl hr0 hne e1 e2 e3 e4 e5 e6 e7 e8 e9 e10 e11 e12
  refine W.vret hx hb hret (fun t ht _ => ⟨_, rfl, rfl, w12, by rw [ht]; exact hW12, ?_, fun q hq => by
        have hq1 := hq
        unfold kr_fr at hq1
        rw [o12 q (by omega), o11 q (by omega) (by omega) (by omega), o10 q (by omega) (by omega) (by omega), o9 q (by omega), o8 q (by omega), o7 q (by omega), o6 q (by omega), o5 q (by omega) (by omega) (by omega), o4 q (by omega) (by omega) (by omega), o3 q (by omega) (by omega) (by omega), o2 q (by omega) (by omega) (by omega), o1 q (by omega) (by omega) (by omega)]⟩) hlc12 d_Cu_followLine_228
  rw [o12 (hc + 1) (by omega), o11 (hc + 1) (by omega) (by omega) (by omega), o10 (hc + 1) (by omega) (by omega) (by omega), o9 (hc + 1) (by omega), o12 (hc + 3) (by omega), o11 (hc + 3) (by omega) (by omega) (by omega), o10 (hc + 3) (by omega) (by omega) (by omega), o9 (hc + 3) (by omega), o8 (hc + 3) (by omega), o7 (hc + 3) (by omega), o6 (hc + 3) (by omega), o5 (hc + 3) (by omega) (by omega) (by omega), o4 (hc + 3) (by omega) (by omega) (by omega), o3 (hc + 3) (by omega) (by omega) (by omega), o2 (hc + 3) (by omega) (by omega) (by omega)]
  exact hrep2
theorem d_Cu_join_0 : decode b_Cu_join 0 = .ok (.aload_n 1, 1) := by decide +kernel
theorem d_Cu_join_1 : decode b_Cu_join 1 = .ok (.getfield 122, 3) := by decide +kernel
theorem d_Cu_join_4 : decode b_Cu_join 4 = .ok (.ifCond .eq 4, 3) := by decide +kernel
theorem d_Cu_join_7 : decode b_Cu_join 7 = .ok (.return_, 1) := by decide +kernel
theorem d_Cu_join_8 : decode b_Cu_join 8 = .ok (.aload_n 0, 1) := by decide +kernel
theorem d_Cu_join_9 : decode b_Cu_join 9 = .ok (.getfield 18, 3) := by decide +kernel
theorem d_Cu_join_12 : decode b_Cu_join 12 = .ok (.invokestatic 126, 3) := by decide +kernel
theorem d_Cu_join_15 : decode b_Cu_join 15 = .ok (.ifCond .eq 36, 3) := by decide +kernel
theorem d_Cu_join_18 : decode b_Cu_join 18 = .ok (.aload_n 0, 1) := by decide +kernel
theorem d_Cu_join_19 : decode b_Cu_join 19 = .ok (.getfield 9, 3) := by decide +kernel
theorem d_Cu_join_22 : decode b_Cu_join 22 = .ok (.aload_n 1, 1) := by decide +kernel
theorem d_Cu_join_23 : decode b_Cu_join 23 = .ok (.getfield 129, 3) := by decide +kernel
theorem d_Cu_join_26 : decode b_Cu_join 26 = .ok (.invokestatic 49, 3) := by decide +kernel
theorem d_Cu_join_29 : decode b_Cu_join 29 = .ok (.aload_n 0, 1) := by decide +kernel
theorem d_Cu_join_30 : decode b_Cu_join 30 = .ok (.getfield 15, 3) := by decide +kernel
theorem d_Cu_join_33 : decode b_Cu_join 33 = .ok (.aload_n 1, 1) := by decide +kernel
theorem d_Cu_join_34 : decode b_Cu_join 34 = .ok (.getfield 130, 3) := by decide +kernel
theorem d_Cu_join_37 : decode b_Cu_join 37 = .ok (.invokestatic 49, 3) := by decide +kernel
theorem d_Cu_join_40 : decode b_Cu_join 40 = .ok (.aload_n 0, 1) := by decide +kernel
theorem d_Cu_join_41 : decode b_Cu_join 41 = .ok (.getfield 18, 3) := by decide +kernel
theorem d_Cu_join_44 : decode b_Cu_join 44 = .ok (.getstatic 105, 3) := by decide +kernel
theorem d_Cu_join_47 : decode b_Cu_join 47 = .ok (.invokestatic 49, 3) := by decide +kernel
theorem d_Cu_join_50 : decode b_Cu_join 50 = .ok (.return_, 1) := by decide +kernel
theorem d_Cu_join_51 : decode b_Cu_join 51 = .ok (.aload_n 0, 1) := by decide +kernel
theorem d_Cu_join_52 : decode b_Cu_join 52 = .ok (.aload_n 1, 1) := by decide +kernel
theorem d_Cu_join_53 : decode b_Cu_join 53 = .ok (.invokevirtual 131, 3) := by decide +kernel
theorem d_Cu_join_56 : decode b_Cu_join 56 = .ok (.aload_n 0, 1) := by decide +kernel
theorem d_Cu_join_57 : decode b_Cu_join 57 = .ok (.getfield 21, 3) := by decide +kernel
theorem d_Cu_join_60 : decode b_Cu_join 60 = .ok (.invokestatic 126, 3) := by decide +kernel
theorem d_Cu_join_63 : decode b_Cu_join 63 = .ok (.ifCond .ne 10, 3) := by decide +kernel
theorem d_Cu_join_66 : decode b_Cu_join 66 = .ok (.aload_n 0, 1) := by decide +kernel
theorem d_Cu_join_67 : decode b_Cu_join 67 = .ok (.invokevirtual 134, 3) := by decide +kernel
theorem d_Cu_join_70 : decode b_Cu_join 70 = .ok (.goto 24, 3) := by decide +kernel
theorem d_Cu_join_73 : decode b_Cu_join 73 = .ok (.aload_n 0, 1) := by decide +kernel
theorem d_Cu_join_74 : decode b_Cu_join 74 = .ok (.getfield 24, 3) := by decide +kernel
theorem d_Cu_join_77 : decode b_Cu_join 77 = .ok (.invokestatic 126, 3) := by decide +kernel
theorem d_Cu_join_80 : decode b_Cu_join 80 = .ok (.ifCond .eq 10, 3) := by decide +kernel
theorem d_Cu_join_83 : decode b_Cu_join 83 = .ok (.aload_n 0, 1) := by decide +kernel
theorem d_Cu_join_84 : decode b_Cu_join 84 = .ok (.invokevirtual 111, 3) := by decide +kernel
theorem d_Cu_join_87 : decode b_Cu_join 87 = .ok (.goto 7, 3) := by decide +kernel
theorem d_Cu_join_90 : decode b_Cu_join 90 = .ok (.aload_n 0, 1) := by decide +kernel
theorem d_Cu_join_91 : decode b_Cu_join 91 = .ok (.invokevirtual 108, 3) := by decide +kernel
theorem d_Cu_join_94 : decode b_Cu_join 94 = .ok (.return_, 1) := by decide +kernel
set_option maxHeartbeats 4000000 in
set_option maxRecDepth 100000 in
theorem c_Cu_join (l : Launch) (E : kr_E) (A : Nat → Nat) (h pa ga gw G hc sp : Nat) (v : Nat → Nat) (H : Heap) (hE : kr_ok E) (hA : kr_A E A) (hP : kr_P E h pa ga gw kP G) (hV : kr_V E hc h) (hW : kr_W E v H) (b : Bool) (hS : kr_Sp E sp b) (hsp : sp + 2 < h) (o : Option (Nat × Nat)) (hrep : kc_rep o (v (hc + 1)) (v (hc + 2)) (v (hc + 3))) (hbp : b = false → v (sp + 1) < kP ∧ v (sp + 2) < kP) : Met l y_Cu_join w_Cu_join ({ frames := 4, cells := 0, slots := 0, locals := 96 }) (kq_P [.ref hc, .ref sp] H (kr_C E A)) (kq_Q (fun o1 H1 => o1 = none ∧ ∃ w : Nat → Nat, kr_W E w H1 ∧ kc_rep (if b = true then o else kc_join o (v (sp + 1)) (v (sp + 2))) (w (hc + 1)) (w (hc + 2)) (w (hc + 3)) ∧ ∀ q, ¬ kr_fr h hc q → w q = v q)) 0 0 (kr_fr h hc) := by
  refine Met.ofW (cc := b_Cu_join) (maxL := 2) (ret := none) (by decide) rfl ?_
  intro p e s m args below meth c s₁ B0 hml hv
  obtain ⟨rfl, hH, hC⟩ := hv
  have hx := B0.exec
  have hb := B0.bytes
  have hret := B0.returns
  have hts := atoms_spec (ws := w_Cu_join) B0.pre
  have hown : s.vm.findClass R_Cu = some m.cls := findClass_of_methodNamed B0.named
  have hlocks := B0.notSynchronized
  rw [hH]
  have hl := lv_entry ([.ref hc, .ref sp]) (n := 2) (Nat.le_of_ble_eq_true rfl)
  rw [lg_entry_eq]
  generalize (lg_sl ([.ref hc, .ref sp]) ++ List.replicate (2 - (lg_sl ([.ref hc, .ref sp])).length) Slot.unset).toArray = ls at hl ⊢
  have hl : lv_has ls 2 [(0, .ref hc), (1, .ref sp)] := hl
  have hB := hC.1
  have hT := kr_T hE hB
  have hK := hB.1
  have hhc := hV.2.2.2
  have hlc0 : ∀ q ∈ ([] : List Loc), kr_fr h hc q.base := fun q h => by cases h
  have hO := kr_obj hW hV.1 hV.2.1
  have hOs := kr_obj hW hS.1 hS.2.1
  have h1 := hV.2.2.1 1 (by decide) (by decide)
  have h2 := hV.2.2.1 2 (by decide) (by decide)
  have h3 := hV.2.2.1 3 (by decide) (by decide)
  have h4 := hV.2.2.1 4 (by decide) (by decide)
  have h5 := hV.2.2.1 5 (by decide) (by decide)
  have hsz := kr_src hE hW hB (Or.inl h3)
  have hlz := kr_lt hE hW (Or.inl h3)
  have hsx := kr_src hE hW hB (Or.inl hS.2.2.1)
  have hlx := kr_lt hE hW (Or.inl hS.2.2.1)
  refine lv_aload_n hx hb d_Cu_join_0 rfl (lv_at hl 1 rfl) ?_
  refine kq_get hx hb hts kt_F_Sp hown hK hOs rfl 2 (by decide) kt_w33 rfl d_Cu_join_1 ?_
  refine lv_if_eq hx hb d_Cu_join_4 rfl (fun hc0 => ?_) (fun hc0 => ?_)
  · have hb0 := kq_z_b0 hc0
    obtain ⟨hbx, hby⟩ := hbp hb0
    subst hb0
    refine lv_aload_n hx hb d_Cu_join_8 rfl (lv_at hl 0 rfl) ?_
    refine kq_get hx hb hts kt_F_Cu hown hK hO rfl 3 (by decide) kt_w102 rfl d_Cu_join_9 ?_
    refine kq_call (va_runS (As := [.ref (hc + 3)]) (rest := []) ⟨hx, hb, hml, hown, hts⟩ (c_Wo_isZero l H (hc + 3) (v (hc + 3)) hlz) (va_cwS 1 hts (kt_inS kt_w236 kt_w329 kt_w235 kt_w6) rfl rfl rfl (by decide +kernel) ⟨Nat.le_of_ble_eq_true rfl, Nat.le_of_ble_eq_true rfl⟩) (kq_preS (kq_st_r) (hsz)) rfl rfl hl.1 rfl (lv_room (Nat.le_of_ble_eq_true rfl)) d_Cu_join_12 ⟨Nat.zero_le _, Nat.zero_le _⟩) (fun v9 H9 L9 hq9 hL9 => ?_)
    obtain ⟨rfl, e9⟩ := hq9
    rw [e9]
    clear e9
    refine W.eq (g2 := F0 m 15 ls [.int (kq_z (decide (v (hc + 3) = 0)))]) rfl ?_
    have hlc1 := t_lL (free := kr_fr h hc) hlc0 (fun q z => (hL9 q z).elim)
    refine lv_if_eq hx hb d_Cu_join_15 rfl (fun hc1 => ?_) (fun hc1 => ?_)
    · have hz : v (hc + 3) ≠ 0 := kq_z_eq.mp hc1
      obtain ⟨q0, rfl⟩ := kc_rep_nz hrep hz
      refine lv_aload_n hx hb d_Cu_join_51 rfl (lv_at hl 0 rfl) ?_
      refine lv_aload_n hx hb d_Cu_join_52 rfl (lv_at hl 1 rfl) ?_
      refine kq_call (va_runV (As := [.ref sp]) (rest := []) ⟨hx, hb, hml, hown, hts⟩ (c_Cu_measureLine l E A h pa ga gw G hc sp v H hE hA hP hV hW false hS hsp q0 hrep hbx hby) (cwV 1 hts (kt_inV kt_w333 kt_w330 kt_w332 kt_s7 kt_w4) rfl rfl rfl (by decide +kernel) ⟨Nat.le_of_ble_eq_true rfl, Nat.le_of_ble_eq_true rfl⟩) (kq_p2V (kr_C_s2 E A) (hC) (kq_recv hC.1.1 hO rfl)) rfl rfl hl.1 rfl (lv_room (Nat.le_of_ble_eq_true rfl)) d_Cu_join_53 ⟨Nat.zero_le _, Nat.zero_le _⟩) (fun u2 H2 L2 hq2 hL2 => ?_)
      obtain ⟨rfl, w2, hW2, ⟨x1, x2, x3⟩, ⟨g1, g2⟩, z4, z5, hrl, k2⟩ := hq2
      refine W.eq (g2 := F0 m 56 ls []) rfl ?_
      have hlc2 := t_lL (free := kr_fr h hc) hlc1 hL2
      have hO2 := kr_obj hW2 hV.1 hV.2.1
      have hsr := kr_src hE hW2 hB (Or.inl h4)
      have hlr := kr_lt hE hW2 (Or.inl h4)
      have hss := kr_src hE hW2 hB (Or.inl h5)
      have hls := kr_lt hE hW2 (Or.inl h5)
      have hrep2 : kc_rep (some q0) (w2 (hc + 1)) (w2 (hc + 2)) (w2 (hc + 3)) := by rw [x1, x2, x3]; exact hrep
      refine lv_aload_n hx hb d_Cu_join_56 rfl (lv_at hl 0 rfl) ?_
      refine kq_get hx hb hts kt_F_Cu hown hK hO2 rfl 4 (by decide) kt_w103 rfl d_Cu_join_57 ?_
      refine kq_call (va_runS (As := [.ref (hc + 4)]) (rest := []) ⟨hx, hb, hml, hown, hts⟩ (c_Wo_isZero l H2 (hc + 4) (w2 (hc + 4)) hlr) (va_cwS 1 hts (kt_inS kt_w236 kt_w329 kt_w235 kt_w6) rfl rfl rfl (by decide +kernel) ⟨Nat.le_of_ble_eq_true rfl, Nat.le_of_ble_eq_true rfl⟩) (kq_preS (kq_st_r) (hsr)) rfl rfl hl.1 rfl (lv_room (Nat.le_of_ble_eq_true rfl)) d_Cu_join_60 ⟨Nat.zero_le _, Nat.zero_le _⟩) (fun u3 H3 L3 hq3 hL3 => ?_)
      obtain ⟨rfl, e9⟩ := hq3
      rw [e9]
      clear e9
      refine W.eq (g2 := F0 m 63 ls [.int (kq_z (decide (w2 (hc + 4) = 0)))]) rfl ?_
      have hlc3 := t_lL (free := kr_fr h hc) hlc2 (fun q z => (hL3 q z).elim)
      refine lv_if_ne hx hb d_Cu_join_63 rfl (fun hc2 => ?_) (fun hc2 => ?_)
      · have hr0 : w2 (hc + 4) = 0 := kq_z_ne.mp hc2
        have hq1 := z4.mp hr0
        refine lv_aload_n hx hb d_Cu_join_73 rfl (lv_at hl 0 rfl) ?_
        refine kq_get hx hb hts kt_F_Cu hown hK hO2 rfl 5 (by decide) kt_w104 rfl d_Cu_join_74 ?_
        refine kq_call (va_runS (As := [.ref (hc + 5)]) (rest := []) ⟨hx, hb, hml, hown, hts⟩ (c_Wo_isZero l H2 (hc + 5) (w2 (hc + 5)) hls) (va_cwS 1 hts (kt_inS kt_w236 kt_w329 kt_w235 kt_w6) rfl rfl rfl (by decide +kernel) ⟨Nat.le_of_ble_eq_true rfl, Nat.le_of_ble_eq_true rfl⟩) (kq_preS (kq_st_r) (hss)) rfl rfl hl.1 rfl (lv_room (Nat.le_of_ble_eq_true rfl)) d_Cu_join_77 ⟨Nat.zero_le _, Nat.zero_le _⟩) (fun u4 H4 L4 hq4 hL4 => ?_)
        obtain ⟨rfl, e9⟩ := hq4
        rw [e9]
        clear e9
        refine W.eq (g2 := F0 m 80 ls [.int (kq_z (decide (w2 (hc + 5) = 0)))]) rfl ?_
        have hlc4 := t_lL (free := kr_fr h hc) hlc3 (fun q z => (hL4 q z).elim)
        refine lv_if_eq hx hb d_Cu_join_80 rfl (fun hc3 => ?_) (fun hc3 => ?_)
        · have hs0 : ¬ w2 (hc + 5) = 0 := kq_z_eq.mp hc3
          refine lv_aload_n hx hb d_Cu_join_90 rfl (lv_at hl 0 rfl) ?_
          refine kq_call (va_runV (As := []) (rest := []) ⟨hx, hb, hml, hown, hts⟩ (c_Cu_start l E A h pa ga gw G hc w2 H2 hE hA hP hV hW2) (cwV 0 hts (kt_inV kt_w323 kt_w342 kt_w321 kt_w322 kt_w4) rfl rfl rfl (by decide +kernel) ⟨Nat.le_of_ble_eq_true rfl, Nat.le_of_ble_eq_true rfl⟩) (kq_p2V (kr_C_s2 E A) (hC) (kq_recv hC.1.1 hO2 rfl)) rfl rfl hl.1 rfl (lv_room (Nat.le_of_ble_eq_true rfl)) d_Cu_join_91 ⟨Nat.zero_le _, Nat.zero_le _⟩) (fun u5 H5 L5 hq5 hL5 => ?_)
          obtain ⟨rfl, w5, hW5, z0, k5⟩ := hq5
          refine W.eq (g2 := F0 m 94 ls []) rfl ?_
          refine W.vret hx hb hret (fun t ht _ => ⟨_, rfl, rfl, w5, by rw [ht]; exact hW5, ?_, fun q hq => by rw [k5 q hq]; exact k2 q hq⟩) (t_lL (free := kr_fr h hc) hlc4 hL5) d_Cu_join_94
          have hj : kc_join (some q0) (v (sp + 1)) (v (sp + 2)) = none := by rw [kc_join_some, if_pos hq1, if_neg (fun q => hs0 (z5.mpr q))]
          rw [if_neg (by decide), hj, z0]
          exact kc_rep_none _ _
        · have hs0 : w2 (hc + 5) = 0 := kq_z_ne.mp hc3
          refine lv_aload_n hx hb d_Cu_join_83 rfl (lv_at hl 0 rfl) ?_
          refine kq_call (va_runV (As := []) (rest := []) ⟨hx, hb, hml, hown, hts⟩ (c_Cu_twice l E A h pa ga gw G hc w2 H2 hE hA hP hV hW2 (some q0) hrep2) (cwV 0 hts (kt_inV kt_w341 kt_w338 kt_w340 kt_s9 kt_w4) rfl rfl rfl (by decide +kernel) ⟨Nat.le_of_ble_eq_true rfl, Nat.le_of_ble_eq_true rfl⟩) (kq_p2V (kr_C_s2 E A) (hC) (kq_recv hC.1.1 hO2 rfl)) rfl rfl hl.1 rfl (lv_room (Nat.le_of_ble_eq_true rfl)) d_Cu_join_84 ⟨Nat.zero_le _, Nat.zero_le _⟩) (fun u5 H5 L5 hq5 hL5 => ?_)
          obtain ⟨rfl, w5, hW5, z0, k5⟩ := hq5
          refine W.eq (g2 := F0 m 87 ls []) rfl ?_
          refine lv_goto hx hb d_Cu_join_87 rfl ?_
          refine W.vret hx hb hret (fun t ht _ => ⟨_, rfl, rfl, w5, by rw [ht]; exact hW5, ?_, fun q hq => by rw [k5 q hq]; exact k2 q hq⟩) (t_lL (free := kr_fr h hc) hlc4 hL5) d_Cu_join_94
          have hj : kc_join (some q0) (v (sp + 1)) (v (sp + 2)) = kc_twice (some q0) := by rw [kc_join_some, if_pos hq1, if_pos (z5.mp hs0)]
          rw [if_neg (by decide), hj]
          exact z0
      · have hr0 : w2 (hc + 4) ≠ 0 := kq_z_eq.mp hc2
        refine lv_aload_n hx hb d_Cu_join_66 rfl (lv_at hl 0 rfl) ?_
        refine kq_call (va_runV (As := []) (rest := []) ⟨hx, hb, hml, hown, hts⟩ (c_Cu_followLine l E A h pa ga gw G hc w2 H2 hE hA hP hV hW2 q0 (v (sp + 1)) (v (sp + 2)) hrep2 hbx hby (by rw [x1, x3]; exact g1) (by rw [x2, x3]; exact g2) hrl hr0 (fun q => hr0 (z4.mpr q))) (cwV 0 hts (kt_inV kt_w337 kt_w334 kt_w336 kt_s8 kt_w4) rfl rfl rfl (by decide +kernel) ⟨Nat.le_of_ble_eq_true rfl, Nat.le_of_ble_eq_true rfl⟩) (kq_p2V (kr_C_s2 E A) (hC) (kq_recv hC.1.1 hO2 rfl)) rfl rfl hl.1 rfl (lv_room (Nat.le_of_ble_eq_true rfl)) d_Cu_join_67 ⟨Nat.zero_le _, Nat.zero_le _⟩) (fun u5 H5 L5 hq5 hL5 => ?_)
        obtain ⟨rfl, w5, hW5, z0, k5⟩ := hq5
        refine W.eq (g2 := F0 m 70 ls []) rfl ?_
        refine lv_goto hx hb d_Cu_join_70 rfl ?_
        refine W.vret hx hb hret (fun t ht _ => ⟨_, rfl, rfl, w5, by rw [ht]; exact hW5, ?_, fun q hq => by rw [k5 q hq]; exact k2 q hq⟩) (t_lL (free := kr_fr h hc) hlc3 hL5) d_Cu_join_94
        rw [if_neg (by decide)]
        exact z0
    · have hz : v (hc + 3) = 0 := kq_z_ne.mp hc1
      have ho := kc_rep_zero hrep hz
      subst ho
      refine lv_aload_n hx hb d_Cu_join_18 rfl (lv_at hl 0 rfl) ?_
      refine kq_get hx hb hts kt_F_Cu hown hK hO rfl 1 (by decide) kt_w100 rfl d_Cu_join_19 ?_
      refine lv_aload_n hx hb d_Cu_join_22 rfl (lv_at hl 1 rfl) ?_
      refine kq_get hx hb hts kt_F_Sp hown hK hOs rfl 0 (by decide) kt_w27 rfl d_Cu_join_23 ?_
      refine kq_call (va_runS (As := [.ref (hc + 1), .ref (sp + 1)]) (rest := []) ⟨hx, hb, hml, hown, hts⟩ (c_Wo_copy l (kr_c E) H (hc + 1) (sp + 1) (v (hc + 1)) (v (sp + 1)) (kr_row hW h1)) (va_cwS 2 hts (kt_inS kt_w222 kt_w255 kt_w221 kt_w6) rfl rfl rfl (by decide +kernel) ⟨Nat.le_of_ble_eq_true rfl, Nat.le_of_ble_eq_true rfl⟩) (kq_preS (kq_st_A.both kq_st_r) (⟨hT, hsx⟩)) rfl rfl hl.1 rfl (lv_room (Nat.le_of_ble_eq_true rfl)) d_Cu_join_26 ⟨Nat.zero_le _, Nat.zero_le _⟩) (fun u2 H2 L2 hq2 hL2 => ?_)
      obtain ⟨rfl, rfl⟩ := hq2
      refine W.eq (g2 := F0 m 29 ls []) rfl ?_
      have hW2 := kr_put hE hW h1 hlx
      have hO2 := kr_obj hW2 hV.1 hV.2.1
      have hOs2 := kr_obj hW2 hS.1 hS.2.1
      have hsy := kr_src hE hW2 hB (Or.inl hS.2.2.2)
      have hly := kr_lt hE hW2 (Or.inl hS.2.2.2)
      rw [kq_up_ne (show sp + 2 ≠ hc + 1 by omega)] at hsy hly
      refine lv_aload_n hx hb d_Cu_join_29 rfl (lv_at hl 0 rfl) ?_
      refine kq_get hx hb hts kt_F_Cu hown hK hO2 rfl 2 (by decide) kt_w101 rfl d_Cu_join_30 ?_
      refine lv_aload_n hx hb d_Cu_join_33 rfl (lv_at hl 1 rfl) ?_
      refine kq_get hx hb hts kt_F_Sp hown hK hOs2 rfl 1 (by decide) kt_w30 rfl d_Cu_join_34 ?_
      refine kq_call (va_runS (As := [.ref (hc + 2), .ref (sp + 2)]) (rest := []) ⟨hx, hb, hml, hown, hts⟩ (c_Wo_copy l (kr_c E) _ (hc + 2) (sp + 2) _ (v (sp + 2)) (kr_row hW2 h2)) (va_cwS 2 hts (kt_inS kt_w222 kt_w255 kt_w221 kt_w6) rfl rfl rfl (by decide +kernel) ⟨Nat.le_of_ble_eq_true rfl, Nat.le_of_ble_eq_true rfl⟩) (kq_preS (kq_st_A.both kq_st_r) (⟨hT, hsy⟩)) rfl rfl hl.1 rfl (lv_room (Nat.le_of_ble_eq_true rfl)) d_Cu_join_37 ⟨Nat.zero_le _, Nat.zero_le _⟩) (fun u3 H3 L3 hq3 hL3 => ?_)
      obtain ⟨rfl, rfl⟩ := hq3
      refine W.eq (g2 := F0 m 40 ls []) rfl ?_
      have hW3 := kr_put hE hW2 h2 hly
      have hO3 := kr_obj hW3 hV.1 hV.2.1
      have hs1 := kr_src hE hW3 hB (Or.inr hA.2.1.1)
      rw [kr_cst hW3 hA.2.1] at hs1
      refine lv_aload_n hx hb d_Cu_join_40 rfl (lv_at hl 0 rfl) ?_
      refine kq_get hx hb hts kt_F_Cu hown hK hO3 rfl 3 (by decide) kt_w102 rfl d_Cu_join_41 ?_
      refine kq_getsN hx hb (kr_zat hW3 hC.2.2.2.1) hown hC.2.1.2.2.2.2 d_Cu_join_44 ?_
      refine kq_call (va_runS (As := [.ref (hc + 3), .ref (A 1)]) (rest := []) ⟨hx, hb, hml, hown, hts⟩ (c_Wo_copy l (kr_c E) _ (hc + 3) (A 1) _ 1 (kr_row hW3 h3)) (va_cwS 2 hts (kt_inS kt_w222 kt_w255 kt_w221 kt_w6) rfl rfl rfl (by decide +kernel) ⟨Nat.le_of_ble_eq_true rfl, Nat.le_of_ble_eq_true rfl⟩) (kq_preS (kq_st_A.both kq_st_r) (⟨hT, hs1⟩)) rfl rfl hl.1 rfl (lv_room (Nat.le_of_ble_eq_true rfl)) d_Cu_join_47 ⟨Nat.zero_le _, Nat.zero_le _⟩) (fun u4 H4 L4 hq4 hL4 => ?_)
      obtain ⟨rfl, rfl⟩ := hq4
      refine W.eq (g2 := F0 m 50 ls []) rfl ?_
      have hW4 := kr_put hE hW3 h3 (show 1 < kw_M 8 by decide +kernel)
      have hlf := t_lL (free := kr_fr h hc) (t_lL (free := kr_fr h hc) (t_lL (free := kr_fr h hc) hlc1 (fun q z => by rw [hL2 q z]; unfold kr_fr; omega)) (fun q z => by rw [hL3 q z]; unfold kr_fr; omega)) (fun q z => by rw [hL4 q z]; unfold kr_fr; omega)
      refine W.vret hx hb hret (fun t ht _ => ⟨_, rfl, rfl, _, by rw [ht]; exact hW4, ?_, fun q hq => ?_⟩) hlf d_Cu_join_50
      · rw [kq_up_ne (show hc + 1 ≠ hc + 3 by omega), kq_up_ne (show hc + 1 ≠ hc + 2 by omega), kq_up_at, kq_up_ne (show hc + 2 ≠ hc + 3 by omega), kq_up_at, kq_up_at, if_neg (by decide)]
        exact kc_rep_one hbx hby
      · unfold kr_fr at hq
        rw [kq_up_ne (by omega), kq_up_ne (by omega), kq_up_ne (by omega)]
  · have hb1 := kq_z_b1 hc0
    exact W.vret hx hb hret (fun t ht _ => ⟨_, rfl, rfl, v, by rw [ht]; exact hW, by rw [if_pos hb1]; exact hrep, fun _ _ => rfl⟩) hlc0 d_Cu_join_7
end
section
/-! KeyCurve$Curve: startMultiple, putSquareOfY, evenRoot, holds (own rows). -/
/-- so often as N says, by its bits from above; j of them are through -/
def kc_mj (N : Nat) (b : Bool) (bx by1 : Nat) : Nat → Option (Nat × Nat)
  | 0 => none
  | j + 1 => if N / 2 ^ (255 - j) % 2 = 1 then (if b = true then kc_twice (kc_mj N b bx by1 j) else kc_join (kc_twice (kc_mj N b bx by1 j)) bx by1) else kc_twice (kc_mj N b bx by1 j)
theorem kc_mj_s (N : Nat) (b : Bool) (bx by1 j : Nat) : kc_mj N b bx by1 (j + 1) = if N / 2 ^ (255 - j) % 2 = 1 then (if b = true then kc_twice (kc_mj N b bx by1 j) else kc_join (kc_twice (kc_mj N b bx by1 j)) bx by1) else kc_twice (kc_mj N b bx by1 j) := rfl
/-- what is under the root for x -/
def kc_sq (x : Nat) : Nat := (x * x % kP * x % kP + 7) % kP
def kc_root (a : Nat) : Nat := (a % kP) ^ ((kP + 1) / 4) % kP
def kc_even (x : Nat) : Nat := if x % 2 = 1 then kp_dif kP kP x else x
theorem d_Cu_startMultiple_0 : decode b_Cu_startMultiple 0 = .ok (.aload_n 0, 1) := by decide +kernel
theorem d_Cu_startMultiple_1 : decode b_Cu_startMultiple 1 = .ok (.invokevirtual 108, 3) := by decide +kernel
theorem d_Cu_startMultiple_4 : decode b_Cu_startMultiple 4 = .ok (.sipush 255, 3) := by decide +kernel
theorem d_Cu_startMultiple_7 : decode b_Cu_startMultiple 7 = .ok (.istore_n 3, 1) := by decide +kernel
theorem d_Cu_startMultiple_8 : decode b_Cu_startMultiple 8 = .ok (.iload_n 3, 1) := by decide +kernel
theorem d_Cu_startMultiple_9 : decode b_Cu_startMultiple 9 = .ok (.ifCond .lt 26, 3) := by decide +kernel
theorem d_Cu_startMultiple_12 : decode b_Cu_startMultiple 12 = .ok (.aload_n 0, 1) := by decide +kernel
theorem d_Cu_startMultiple_13 : decode b_Cu_startMultiple 13 = .ok (.invokevirtual 111, 3) := by decide +kernel
theorem d_Cu_startMultiple_16 : decode b_Cu_startMultiple 16 = .ok (.aload_n 2, 1) := by decide +kernel
theorem d_Cu_startMultiple_17 : decode b_Cu_startMultiple 17 = .ok (.iload_n 3, 1) := by decide +kernel
theorem d_Cu_startMultiple_18 : decode b_Cu_startMultiple 18 = .ok (.invokestatic 114, 3) := by decide +kernel
theorem d_Cu_startMultiple_21 : decode b_Cu_startMultiple 21 = .ok (.ifCond .eq 8, 3) := by decide +kernel
theorem d_Cu_startMultiple_24 : decode b_Cu_startMultiple 24 = .ok (.aload_n 0, 1) := by decide +kernel
theorem d_Cu_startMultiple_25 : decode b_Cu_startMultiple 25 = .ok (.aload_n 1, 1) := by decide +kernel
theorem d_Cu_startMultiple_26 : decode b_Cu_startMultiple 26 = .ok (.invokevirtual 118, 3) := by decide +kernel
theorem d_Cu_startMultiple_29 : decode b_Cu_startMultiple 29 = .ok (.iinc 3 (-1), 3) := by decide +kernel
theorem d_Cu_startMultiple_32 : decode b_Cu_startMultiple 32 = .ok (.goto (-24), 3) := by decide +kernel
theorem d_Cu_startMultiple_35 : decode b_Cu_startMultiple 35 = .ok (.return_, 1) := by decide +kernel
section
variable {p : Program} {l : Launch} {e : Env} {R : Room} {s : State} {m : MethodId} {args : Array Value} {below : List Frame} {meth : Method} {c : Code} {cells slots : Nat} {Q : State → Prop}
set_option maxHeartbeats 4000000 in
set_option maxRecDepth 100000 in
theorem lp_Cu_startMultiple (hx : p.tables.exec = Jvm.exec) (hb : c.code = b_Cu_startMultiple) (hts : ∀ w ∈ w_Cu_startMultiple, w.before args s = true) (hown : s.vm.findClass R_Cu = some m.cls) (hml : c.maxLocals = 4) (hRf : 5 ≤ R.frames) (hRl : 117 ≤ R.locals) {E : kr_E} {A : Nat → Nat} {h pa ga gw G hc : Nat} (hE : kr_ok E) (hA : kr_A E A) (hP : kr_P E h pa ga gw kP G) (hV : kr_V E hc h) (hC : kr_C E A s) {sp nr : Nat} {b : Bool} {v : Nat → Nat} (hS : kr_Sp E sp b) (hsp : sp + 2 < h) (hbp : b = false → v (sp + 1) < kP ∧ v (sp + 2) < kP) (hnr : kr_in E nr) (hnh : nr < h)
    (kk : ∀ (w : Nat → Nat) (H : Heap) (ls : Array Slot) (locs : List Loc), kr_W E w H → kc_rep (kc_mj (v nr) b (v (sp + 1)) (v (sp + 2)) 256) (w (hc + 1)) (w (hc + 2)) (w (hc + 3)) → (∀ q, ¬ kr_fr h hc q → w q = v q) → (∀ q ∈ locs, kr_fr h hc q.base) → W p l e R s m args below meth c H locs 0 0 Q (F0 m 35 ls [])) :
    ∀ (n : Nat) (w : Nat → Nat) (H : Heap) (ls : Array Slot) (locs : List Loc), n ≤ 256 → kr_W E w H → kc_rep (kc_mj (v nr) b (v (sp + 1)) (v (sp + 2)) (256 - n)) (w (hc + 1)) (w (hc + 2)) (w (hc + 3)) → (∀ q, ¬ kr_fr h hc q → w q = v q) → (∀ q ∈ locs, kr_fr h hc q.base) → lv_has ls 4 [(3, .int (kq_dn n)), (0, .ref hc), (1, .ref sp), (2, .ref nr)] → W p l e R s m args below meth c H locs 0 0 Q (F0 m 8 ls []) := by
  intro n
  induction n with
  | zero =>
    intro w H ls locs hn hW h1 ho hlc hl
    refine lv_iload_n hx hb d_Cu_startMultiple_8 rfl (lv_at hl 0 rfl) ?_
    refine lv_if_lt hx hb d_Cu_startMultiple_9 rfl (fun hcc => ?_) (fun hcc => ?_)
    · exact kk w H ls locs hW h1 ho hlc
    · exact absurd (by decide) hcc
  | succ n ih =>
    intro w H ls locs hn hW h1 ho hlc hl
    have hl : lv_has ls 4 [(3, .int (nI n)), (0, .ref hc), (1, .ref sp), (2, .ref nr)] := hl
    have hB := hC.1
    have hhc := hV.2.2.2
    have hO := kr_obj hW hV.1 hV.2.1
    have es : kc_mj (v nr) b (v (sp + 1)) (v (sp + 2)) (256 - n) = if v nr / 2 ^ n % 2 = 1 then (if b = true then kc_twice (kc_mj (v nr) b (v (sp + 1)) (v (sp + 2)) (256 - (n + 1))) else kc_join (kc_twice (kc_mj (v nr) b (v (sp + 1)) (v (sp + 2)) (256 - (n + 1)))) (v (sp + 1)) (v (sp + 2))) else kc_twice (kc_mj (v nr) b (v (sp + 1)) (v (sp + 2)) (256 - (n + 1))) := by
      have q1 : 256 - n = (256 - (n + 1)) + 1 := by omega
      have q2 : 255 - (256 - (n + 1)) = n := by omega
      rw [q1, kc_mj_s, q2]
    refine lv_iload_n hx hb d_Cu_startMultiple_8 rfl (lv_at hl 0 rfl) ?_
    refine lv_if_lt hx hb d_Cu_startMultiple_9 rfl (fun hcc => ?_) (fun hcc => ?_)
    · exact absurd hcc (nI_pos (by omega))
    · refine lv_aload_n hx hb d_Cu_startMultiple_12 rfl (lv_at hl 1 rfl) ?_
      refine kq_call (va_runV (As := []) (rest := []) ⟨hx, hb, hml, hown, hts⟩ (c_Cu_twice l E A h pa ga gw G hc w H hE hA hP hV hW _ h1) (cwV 0 hts (kt_inV kt_w341 kt_w338 kt_w340 kt_s9 kt_w4) rfl rfl rfl (by decide +kernel) ⟨Nat.le_trans (Nat.le_of_ble_eq_true rfl) hRf, Nat.le_trans (Nat.le_of_ble_eq_true rfl) hRl⟩) (kq_p2V (kr_C_s2 E A) (hC) (kq_recv hC.1.1 hO rfl)) rfl rfl hl.1 rfl (lv_room (Nat.le_of_ble_eq_true rfl)) d_Cu_startMultiple_13 ⟨Nat.zero_le _, Nat.zero_le _⟩) (fun u2 H2 L2 hq2 hL2 => ?_)
      obtain ⟨rfl, w2, hW2, r2, k2⟩ := hq2
      refine W.eq (g2 := F0 m 16 ls []) rfl ?_
      have hlc2 := t_lL (free := kr_fr h hc) hlc hL2
      have k2' : ∀ q, ¬ kr_fr h hc q → w2 q = v q := fun q hq => by rw [k2 q hq]; exact ho q hq
      have hO2 := kr_obj hW2 hV.1 hV.2.1
      have hsn := kr_src hE hW2 hB hnr
      rw [k2' nr (by unfold kr_fr; omega)] at hsn
      refine lv_aload_n hx hb d_Cu_startMultiple_16 rfl (lv_at hl 3 rfl) ?_
      refine lv_iload_n hx hb d_Cu_startMultiple_17 rfl (lv_at hl 0 rfl) ?_
      refine kq_call (va_runS (As := [.ref nr, .int (nI n)]) (rest := []) ⟨hx, hb, hml, hown, hts⟩ (c_Wo_hasBit l H2 nr (v nr) n (by omega)) (va_cwS 2 hts (kt_inS kt_w246 kt_w356 kt_w245 kt_w6) rfl rfl rfl (by decide +kernel) ⟨Nat.le_trans (Nat.le_of_ble_eq_true rfl) hRf, Nat.le_trans (Nat.le_of_ble_eq_true rfl) hRl⟩) (kq_preS (kq_st_r) (hsn)) rfl rfl hl.1 rfl (lv_room (Nat.le_of_ble_eq_true rfl)) d_Cu_startMultiple_18 ⟨Nat.zero_le _, Nat.zero_le _⟩) (fun u3 H3 L3 hq3 hL3 => ?_)
      obtain ⟨rfl, e9⟩ := hq3
      rw [e9]
      clear e9
      refine W.eq (g2 := F0 m 21 ls [.int (kq_z (decide (v nr / 2 ^ n % 2 = 1)))]) rfl ?_
      have hlc3 := t_lL (free := kr_fr h hc) hlc2 (fun q z => (hL3 q z).elim)
      refine lv_if_eq hx hb d_Cu_startMultiple_21 rfl (fun hc0 => ?_) (fun hc0 => ?_)
      · have hb0 := kq_z_eq.mp hc0
        rw [if_neg hb0] at es
        refine lv_iinc (k := 0) (v := kq_dn n) hx hb d_Cu_startMultiple_29 hl rfl (kq_dn_dec n) (by decide) rfl (fun ls hl => ?_)
        have hl : lv_has ls 4 [(3, .int (kq_dn n)), (0, .ref hc), (1, .ref sp), (2, .ref nr)] := hl
        refine lv_goto hx hb d_Cu_startMultiple_32 rfl ?_
        exact ih w2 H2 ls _ (by omega) hW2 (by rw [es]; exact r2) k2' hlc3 (lv_sub hl [0, 1, 2, 3] rfl)
      · have hb1 : v nr / 2 ^ n % 2 = 1 := kq_z_ne.mp hc0
        rw [if_pos hb1] at es
        have y1 := k2' (sp + 1) (by unfold kr_fr; omega)
        have y2 := k2' (sp + 2) (by unfold kr_fr; omega)
        refine lv_aload_n hx hb d_Cu_startMultiple_24 rfl (lv_at hl 1 rfl) ?_
        refine lv_aload_n hx hb d_Cu_startMultiple_25 rfl (lv_at hl 2 rfl) ?_
        refine kq_call (va_runV (As := [.ref sp]) (rest := []) ⟨hx, hb, hml, hown, hts⟩ (c_Cu_join l E A h pa ga gw G hc sp w2 H2 hE hA hP hV hW2 b hS hsp _ r2 (fun q => by rw [y1, y2]; exact hbp q)) (cwV 1 hts (kt_inV kt_w328 kt_w357 kt_w326 kt_w327 kt_w4) rfl rfl rfl (by decide +kernel) ⟨Nat.le_trans (Nat.le_of_ble_eq_true rfl) hRf, Nat.le_trans (Nat.le_of_ble_eq_true rfl) hRl⟩) (kq_p2V (kr_C_s2 E A) (hC) (kq_recv hC.1.1 hO2 rfl)) rfl rfl hl.1 rfl (lv_room (Nat.le_of_ble_eq_true rfl)) d_Cu_startMultiple_26 ⟨Nat.zero_le _, Nat.zero_le _⟩) (fun u4 H4 L4 hq4 hL4 => ?_)
        obtain ⟨rfl, w4, hW4, r4, k4⟩ := hq4
        refine W.eq (g2 := F0 m 29 ls []) rfl ?_
        refine lv_iinc (k := 0) (v := kq_dn n) hx hb d_Cu_startMultiple_29 hl rfl (kq_dn_dec n) (by decide) rfl (fun ls hl => ?_)
        have hl : lv_has ls 4 [(3, .int (kq_dn n)), (0, .ref hc), (1, .ref sp), (2, .ref nr)] := hl
        refine lv_goto hx hb d_Cu_startMultiple_32 rfl ?_
        refine ih w4 H4 ls _ (by omega) hW4 ?_ (fun q hq => by rw [k4 q hq]; exact k2' q hq) (t_lL (free := kr_fr h hc) hlc3 hL4) (lv_sub hl [0, 1, 2, 3] rfl)
        rw [y1, y2] at r4
        rw [es]
        exact r4
end
set_option maxHeartbeats 4000000 in
set_option maxRecDepth 100000 in
theorem c_Cu_startMultiple (l : Launch) (E : kr_E) (A : Nat → Nat) (h pa ga gw G hc sp : Nat) (v : Nat → Nat) (H : Heap) (hE : kr_ok E) (hA : kr_A E A) (hP : kr_P E h pa ga gw kP G) (hV : kr_V E hc h) (hW : kr_W E v H) (b : Bool) (hS : kr_Sp E sp b) (hsp : sp + 2 < h) (hbp : b = false → v (sp + 1) < kP ∧ v (sp + 2) < kP) (nr : Nat) (hnr : kr_in E nr) (hnh : nr < h) : Met l y_Cu_startMultiple w_Cu_startMultiple ({ frames := 5, cells := 0, slots := 0, locals := 117 }) (kq_P [.ref hc, .ref sp, .ref nr] H (kr_C E A)) (kq_Q (fun o1 H1 => o1 = none ∧ ∃ w : Nat → Nat, kr_W E w H1 ∧ kc_rep (kc_mj (v nr) b (v (sp + 1)) (v (sp + 2)) 256) (w (hc + 1)) (w (hc + 2)) (w (hc + 3)) ∧ ∀ q, ¬ kr_fr h hc q → w q = v q)) 0 0 (kr_fr h hc) := by
  refine Met.ofW (cc := b_Cu_startMultiple) (maxL := 4) (ret := none) (by decide) rfl ?_
  intro p e s m args below meth c s₁ B0 hml hv
  obtain ⟨rfl, hH, hC⟩ := hv
  have hx := B0.exec
  have hb := B0.bytes
  have hret := B0.returns
  have hts := atoms_spec (ws := w_Cu_startMultiple) B0.pre
  have hown : s.vm.findClass R_Cu = some m.cls := findClass_of_methodNamed B0.named
  have hlocks := B0.notSynchronized
  rw [hH]
  have hl := lv_entry ([.ref hc, .ref sp, .ref nr]) (n := 4) (Nat.le_of_ble_eq_true rfl)
  rw [lg_entry_eq]
  generalize (lg_sl ([.ref hc, .ref sp, .ref nr]) ++ List.replicate (4 - (lg_sl ([.ref hc, .ref sp, .ref nr])).length) Slot.unset).toArray = ls at hl ⊢
  have hl : lv_has ls 4 [(0, .ref hc), (1, .ref sp), (2, .ref nr)] := hl
  have hB := hC.1
  have hT := kr_T hE hB
  have hK := hB.1
  have hhc := hV.2.2.2
  have hlc0 : ∀ q ∈ ([] : List Loc), kr_fr h hc q.base := fun q h => by cases h
  have hO := kr_obj hW hV.1 hV.2.1
  refine lv_aload_n hx hb d_Cu_startMultiple_0 rfl (lv_at hl 0 rfl) ?_
  refine kq_call (va_runV (As := []) (rest := []) ⟨hx, hb, hml, hown, hts⟩ (c_Cu_start l E A h pa ga gw G hc v H hE hA hP hV hW) (cwV 0 hts (kt_inV kt_w323 kt_w342 kt_w321 kt_w322 kt_w4) rfl rfl rfl (by decide +kernel) ⟨Nat.le_of_ble_eq_true rfl, Nat.le_of_ble_eq_true rfl⟩) (kq_p2V (kr_C_s2 E A) (hC) (kq_recv hC.1.1 hO rfl)) rfl rfl hl.1 rfl (lv_room (Nat.le_of_ble_eq_true rfl)) d_Cu_startMultiple_1 ⟨Nat.zero_le _, Nat.zero_le _⟩) (fun u2 H2 L2 hq2 hL2 => ?_)
  obtain ⟨rfl, w2, hW2, z2, k2⟩ := hq2
  refine W.eq (g2 := F0 m 4 ls []) rfl ?_
  refine lv_sipush (v := nI 255) hx hb d_Cu_startMultiple_4 (by decide) ?_
  refine lv_istore_n hx hb d_Cu_startMultiple_7 rfl hl (by decide) rfl (fun ls hl => ?_)
  have hl : lv_has ls 4 [(3, .int (nI 255)), (0, .ref hc), (1, .ref sp), (2, .ref nr)] := hl
  have hlc2 := t_lL (free := kr_fr h hc) hlc0 hL2
  refine lp_Cu_startMultiple hx hb hts hown hml (Nat.le_of_ble_eq_true rfl) (Nat.le_of_ble_eq_true rfl) hE hA hP hV hC (v := v) hS hsp hbp hnr hnh (fun w3 H3 ls L3 hW3 r3 k3 hL3 => ?_) 256 w2 H2 ls _ (Nat.le_refl 256) hW2 (by rw [z2]; exact kc_rep_none _ _) k2 hlc2 (lv_sub hl [0, 1, 2, 3] rfl)
  exact W.vret hx hb hret (fun t ht _ => ⟨_, rfl, rfl, w3, by rw [ht]; exact hW3, r3, k3⟩) hL3 d_Cu_startMultiple_35
theorem d_Cu_putSquareOfY_0 : decode b_Cu_putSquareOfY 0 = .ok (.aload_n 0, 1) := by decide +kernel
theorem d_Cu_putSquareOfY_1 : decode b_Cu_putSquareOfY 1 = .ok (.getfield 45, 3) := by decide +kernel
theorem d_Cu_putSquareOfY_4 : decode b_Cu_putSquareOfY 4 = .ok (.aload_n 1, 1) := by decide +kernel
theorem d_Cu_putSquareOfY_5 : decode b_Cu_putSquareOfY 5 = .ok (.aload_n 2, 1) := by decide +kernel
theorem d_Cu_putSquareOfY_6 : decode b_Cu_putSquareOfY 6 = .ok (.aload_n 2, 1) := by decide +kernel
theorem d_Cu_putSquareOfY_7 : decode b_Cu_putSquareOfY 7 = .ok (.invokevirtual 68, 3) := by decide +kernel
theorem d_Cu_putSquareOfY_10 : decode b_Cu_putSquareOfY 10 = .ok (.aload_n 0, 1) := by decide +kernel
theorem d_Cu_putSquareOfY_11 : decode b_Cu_putSquareOfY 11 = .ok (.getfield 45, 3) := by decide +kernel
theorem d_Cu_putSquareOfY_14 : decode b_Cu_putSquareOfY 14 = .ok (.aload_n 1, 1) := by decide +kernel
theorem d_Cu_putSquareOfY_15 : decode b_Cu_putSquareOfY 15 = .ok (.aload_n 1, 1) := by decide +kernel
theorem d_Cu_putSquareOfY_16 : decode b_Cu_putSquareOfY 16 = .ok (.aload_n 2, 1) := by decide +kernel
theorem d_Cu_putSquareOfY_17 : decode b_Cu_putSquareOfY 17 = .ok (.invokevirtual 68, 3) := by decide +kernel
theorem d_Cu_putSquareOfY_20 : decode b_Cu_putSquareOfY 20 = .ok (.aload_n 0, 1) := by decide +kernel
theorem d_Cu_putSquareOfY_21 : decode b_Cu_putSquareOfY 21 = .ok (.getfield 45, 3) := by decide +kernel
theorem d_Cu_putSquareOfY_24 : decode b_Cu_putSquareOfY 24 = .ok (.aload_n 1, 1) := by decide +kernel
theorem d_Cu_putSquareOfY_25 : decode b_Cu_putSquareOfY 25 = .ok (.aload_n 1, 1) := by decide +kernel
theorem d_Cu_putSquareOfY_26 : decode b_Cu_putSquareOfY 26 = .ok (.getstatic 99, 3) := by decide +kernel
theorem d_Cu_putSquareOfY_29 : decode b_Cu_putSquareOfY 29 = .ok (.invokevirtual 102, 3) := by decide +kernel
theorem d_Cu_putSquareOfY_32 : decode b_Cu_putSquareOfY 32 = .ok (.return_, 1) := by decide +kernel
set_option maxHeartbeats 4000000 in
set_option maxRecDepth 100000 in
theorem c_Cu_putSquareOfY (l : Launch) (E : kr_E) (A : Nat → Nat) (h pa ga gw G hc : Nat) (v : Nat → Nat) (H : Heap) (hE : kr_ok E) (hA : kr_A E A) (hP : kr_P E h pa ga gw kP G) (hV : kr_V E hc h) (hW : kr_W E v H) (ax : Nat) (hax : kr_out E ax) (hxh : ax < h) : Met l y_Cu_putSquareOfY w_Cu_putSquareOfY ({ frames := 3, cells := 0, slots := 0, locals := 75 }) (kq_P [.ref hc, .ref (hc + 7), .ref ax] H (kr_C E A)) (kq_Q (fun o1 H1 => o1 = none ∧ ∃ w : Nat → Nat, kr_W E w H1 ∧ w (hc + 7) = kc_sq (v ax) ∧ ∀ q, ¬ kr_fr h hc q → w q = v q)) 0 0 (kr_fr h hc) := by
  refine Met.ofW (cc := b_Cu_putSquareOfY) (maxL := 3) (ret := none) (by decide) rfl ?_
  intro p e s m args below meth c s₁ B0 hml hv
  obtain ⟨rfl, hH, hC⟩ := hv
  have hx := B0.exec
  have hb := B0.bytes
  have hret := B0.returns
  have hts := atoms_spec (ws := w_Cu_putSquareOfY) B0.pre
  have hown : s.vm.findClass R_Cu = some m.cls := findClass_of_methodNamed B0.named
  have hlocks := B0.notSynchronized
  rw [hH]
  have hl := lv_entry ([.ref hc, .ref (hc + 7), .ref ax]) (n := 3) (Nat.le_of_ble_eq_true rfl)
  rw [lg_entry_eq]
  generalize (lg_sl ([.ref hc, .ref (hc + 7), .ref ax]) ++ List.replicate (3 - (lg_sl ([.ref hc, .ref (hc + 7), .ref ax])).length) Slot.unset).toArray = ls at hl ⊢
  have hl : lv_has ls 3 [(0, .ref hc), (1, .ref (hc + 7)), (2, .ref ax)] := hl
  have hB := hC.1
  have hT := kr_T hE hB
  have hK := hB.1
  have hhc := hV.2.2.2
  have hlc0 : ∀ q ∈ ([] : List Loc), kr_fr h hc q.base := fun q h => by cases h
  have hOc0 := kr_obj hW hV.1 hV.2.1
  have hOp0 := kr_obj hW hP.1 hP.2.1
  have hA2 : A 2 ≠ h + 1 ∧ A 2 ≠ h + 2 ∧ A 2 ≠ hc + 7 := ⟨fun q => hE.1 _ hA.2.2.1.1 (by rw [q]; exact hP.2.2.2.2.2.2.2.2.1.1), fun q => hE.1 _ hA.2.2.1.1 (by rw [q]; exact hP.2.2.2.2.2.2.2.2.2.1.1), fun q => hE.1 _ hA.2.2.1.1 (by rw [q]; exact (hV.2.2.1 7 (by decide) (by decide)).1)⟩
  refine lv_aload_n hx hb d_Cu_putSquareOfY_0 rfl (lv_at hl 0 rfl) ?_
  refine kq_get hx hb hts kt_F_Cu hown hK hOc0 rfl 0 (by decide) kt_w99 rfl d_Cu_putSquareOfY_1 ?_
  refine lv_aload_n hx hb d_Cu_putSquareOfY_4 rfl (lv_at hl 1 rfl) ?_
  refine lv_aload_n hx hb d_Cu_putSquareOfY_5 rfl (lv_at hl 2 rfl) ?_
  refine lv_aload_n hx hb d_Cu_putSquareOfY_6 rfl (lv_at hl 2 rfl) ?_
  refine kq_call (va_runV (As := [.ref (hc + 7), .ref ax, .ref ax]) (rest := []) ⟨hx, hb, hml, hown, hts⟩ (c_Pr_product l E h pa ga gw kP G v H hE hP hW (hc + 7) (ax) (ax) (hV.2.2.1 7 (by decide) (by decide)) (Or.inl hax) (Or.inl hax)) (cwV 3 hts (kt_inV kt_w206 kt_w260 kt_w204 kt_w205 kt_w3) rfl rfl rfl (by decide +kernel) ⟨Nat.le_of_ble_eq_true rfl, Nat.le_of_ble_eq_true rfl⟩) (kq_preV (kr_st E) (hC.1) (kq_recv hC.1.1 hOp0 rfl)) rfl rfl hl.1 rfl (lv_room (Nat.le_of_ble_eq_true rfl)) d_Cu_putSquareOfY_7 ⟨Nat.zero_le _, Nat.zero_le _⟩) (fun u1 H1 L1 hq1 hL1 => ?_)
  obtain ⟨rfl, w1, hW1, f1, o1⟩ := hq1
  refine W.eq (g2 := F0 m 10 ls []) rfl ?_
  have hlc1 := t_lL (free := kr_fr h hc) hlc0 (fun q z => by rcases hL1 q z with z | z | z <;> (rw [z]; unfold kr_fr; omega))
  have e1 : w1 (hc + 7) = v (ax) * v (ax) % kP := by rw [f1]
  have hOc1 := kr_obj hW1 hV.1 hV.2.1
  have hOp1 := kr_obj hW1 hP.1 hP.2.1
  refine lv_aload_n hx hb d_Cu_putSquareOfY_10 rfl (lv_at hl 0 rfl) ?_
  refine kq_get hx hb hts kt_F_Cu hown hK hOc1 rfl 0 (by decide) kt_w99 rfl d_Cu_putSquareOfY_11 ?_
  refine lv_aload_n hx hb d_Cu_putSquareOfY_14 rfl (lv_at hl 1 rfl) ?_
  refine lv_aload_n hx hb d_Cu_putSquareOfY_15 rfl (lv_at hl 1 rfl) ?_
  refine lv_aload_n hx hb d_Cu_putSquareOfY_16 rfl (lv_at hl 2 rfl) ?_
  refine kq_call (va_runV (As := [.ref (hc + 7), .ref (hc + 7), .ref ax]) (rest := []) ⟨hx, hb, hml, hown, hts⟩ (c_Pr_product l E h pa ga gw kP G w1 H1 hE hP hW1 (hc + 7) (hc + 7) (ax) (hV.2.2.1 7 (by decide) (by decide)) (Or.inl (hV.2.2.1 7 (by decide) (by decide))) (Or.inl hax)) (cwV 3 hts (kt_inV kt_w206 kt_w260 kt_w204 kt_w205 kt_w3) rfl rfl rfl (by decide +kernel) ⟨Nat.le_of_ble_eq_true rfl, Nat.le_of_ble_eq_true rfl⟩) (kq_preV (kr_st E) (hC.1) (kq_recv hC.1.1 hOp1 rfl)) rfl rfl hl.1 rfl (lv_room (Nat.le_of_ble_eq_true rfl)) d_Cu_putSquareOfY_17 ⟨Nat.zero_le _, Nat.zero_le _⟩) (fun u2 H2 L2 hq2 hL2 => ?_)
  obtain ⟨rfl, w2, hW2, f2, o2⟩ := hq2
  refine W.eq (g2 := F0 m 20 ls []) rfl ?_
  have hlc2 := t_lL (free := kr_fr h hc) hlc1 (fun q z => by rcases hL2 q z with z | z | z <;> (rw [z]; unfold kr_fr; omega))
  have e2 : w2 (hc + 7) = w1 (hc + 7) * v (ax) % kP := by rw [f2, o1 (ax) (by omega) (by omega) (by omega)]
  have hOc2 := kr_obj hW2 hV.1 hV.2.1
  have hOp2 := kr_obj hW2 hP.1 hP.2.1
  refine lv_aload_n hx hb d_Cu_putSquareOfY_20 rfl (lv_at hl 0 rfl) ?_
  refine kq_get hx hb hts kt_F_Cu hown hK hOc2 rfl 0 (by decide) kt_w99 rfl d_Cu_putSquareOfY_21 ?_
  refine lv_aload_n hx hb d_Cu_putSquareOfY_24 rfl (lv_at hl 1 rfl) ?_
  refine lv_aload_n hx hb d_Cu_putSquareOfY_25 rfl (lv_at hl 1 rfl) ?_
  refine kq_getsN hx hb (kr_zat hW2 hC.2.2.2.2.1) hown hC.2.1.2.2.2.1 d_Cu_putSquareOfY_26 ?_
  refine kq_call (va_runV (As := [.ref (hc + 7), .ref (hc + 7), .ref (A 2)]) (rest := []) ⟨hx, hb, hml, hown, hts⟩ (c_Pr_sum l E h pa ga gw kP G w2 H2 hE hP hW2 (hc + 7) (hc + 7) (A 2) (hV.2.2.1 7 (by decide) (by decide)) (Or.inl (hV.2.2.1 7 (by decide) (by decide))) (Or.inr hA.2.2.1.1)) (cwV 3 hts (kt_inV kt_w176 kt_w305 kt_w174 kt_w175 kt_w3) rfl rfl rfl (by decide +kernel) ⟨Nat.le_of_ble_eq_true rfl, Nat.le_of_ble_eq_true rfl⟩) (kq_preV (kr_st E) (hC.1) (kq_recv hC.1.1 hOp2 rfl)) rfl rfl hl.1 rfl (lv_room (Nat.le_of_ble_eq_true rfl)) d_Cu_putSquareOfY_29 ⟨Nat.zero_le _, Nat.zero_le _⟩) (fun u3 H3 L3 hq3 hL3 => ?_)
  obtain ⟨rfl, hX3⟩ := hq3
  refine W.eq (g2 := F0 m 32 ls []) rfl ?_
  obtain ⟨w3, f3, o3, hW3⟩ : ∃ w : Nat → Nat, w (hc + 7) = (w2 (hc + 7) + w2 (A 2)) % kP ∧ (∀ q, q ≠ hc + 7 → w q = w2 q) ∧ kr_W E w H3 := ⟨_, kq_up_at, fun q hq => kq_up_ne hq, hX3⟩
  have hlc3 := t_lL (free := kr_fr h hc) hlc2 (fun q z => by rw [hL3 q z]; unfold kr_fr; omega)
  have e3 : w3 (hc + 7) = (w2 (hc + 7) + v (A 2)) % kP := by rw [f3, o2 (A 2) (by omega) (by omega) (by omega), o1 (A 2) (by omega) (by omega) (by omega)]
  have hOc3 := kr_obj hW3 hV.1 hV.2.1
  have hOp3 := kr_obj hW3 hP.1 hP.2.1
  have h7 : v (A 2) = 7 := kr_cst hW hA.2.2.1
  refine W.vret hx hb hret (fun t ht _ => ⟨_, rfl, rfl, w3, by rw [ht]; exact hW3, by rw [e3, e2, e1, h7]; rfl, fun q hq => by
        have hq1 := hq
        unfold kr_fr at hq1
        rw [o3 q (by omega), o2 q (by omega) (by omega) (by omega), o1 q (by omega) (by omega) (by omega)]⟩) hlc3 d_Cu_putSquareOfY_32
theorem d_Cu_holds_0 : decode b_Cu_holds 0 = .ok (.aload_n 1, 1) := by decide +kernel
theorem d_Cu_holds_1 : decode b_Cu_holds 1 = .ok (.getstatic 79, 3) := by decide +kernel
theorem d_Cu_holds_4 : decode b_Cu_holds 4 = .ok (.invokestatic 85, 3) := by decide +kernel
theorem d_Cu_holds_7 : decode b_Cu_holds 7 = .ok (.ifCond .eq 13, 3) := by decide +kernel
theorem d_Cu_holds_10 : decode b_Cu_holds 10 = .ok (.aload_n 2, 1) := by decide +kernel
theorem d_Cu_holds_11 : decode b_Cu_holds 11 = .ok (.getstatic 79, 3) := by decide +kernel
theorem d_Cu_holds_14 : decode b_Cu_holds 14 = .ok (.invokestatic 85, 3) := by decide +kernel
theorem d_Cu_holds_17 : decode b_Cu_holds 17 = .ok (.ifCond .ne 5, 3) := by decide +kernel
theorem d_Cu_holds_20 : decode b_Cu_holds 20 = .ok (.iconst 0, 1) := by decide +kernel
theorem d_Cu_holds_21 : decode b_Cu_holds 21 = .ok (.ireturn, 1) := by decide +kernel
theorem d_Cu_holds_22 : decode b_Cu_holds 22 = .ok (.aload_n 0, 1) := by decide +kernel
theorem d_Cu_holds_23 : decode b_Cu_holds 23 = .ok (.aload_n 0, 1) := by decide +kernel
theorem d_Cu_holds_24 : decode b_Cu_holds 24 = .ok (.getfield 30, 3) := by decide +kernel
theorem d_Cu_holds_27 : decode b_Cu_holds 27 = .ok (.aload_n 1, 1) := by decide +kernel
theorem d_Cu_holds_28 : decode b_Cu_holds 28 = .ok (.invokevirtual 88, 3) := by decide +kernel
theorem d_Cu_holds_31 : decode b_Cu_holds 31 = .ok (.aload_n 0, 1) := by decide +kernel
theorem d_Cu_holds_32 : decode b_Cu_holds 32 = .ok (.getfield 45, 3) := by decide +kernel
theorem d_Cu_holds_35 : decode b_Cu_holds 35 = .ok (.aload_n 0, 1) := by decide +kernel
theorem d_Cu_holds_36 : decode b_Cu_holds 36 = .ok (.getfield 42, 3) := by decide +kernel
theorem d_Cu_holds_39 : decode b_Cu_holds 39 = .ok (.aload_n 2, 1) := by decide +kernel
theorem d_Cu_holds_40 : decode b_Cu_holds 40 = .ok (.aload_n 2, 1) := by decide +kernel
theorem d_Cu_holds_41 : decode b_Cu_holds 41 = .ok (.invokevirtual 68, 3) := by decide +kernel
theorem d_Cu_holds_44 : decode b_Cu_holds 44 = .ok (.aload_n 0, 1) := by decide +kernel
theorem d_Cu_holds_45 : decode b_Cu_holds 45 = .ok (.getfield 42, 3) := by decide +kernel
theorem d_Cu_holds_48 : decode b_Cu_holds 48 = .ok (.aload_n 0, 1) := by decide +kernel
theorem d_Cu_holds_49 : decode b_Cu_holds 49 = .ok (.getfield 30, 3) := by decide +kernel
theorem d_Cu_holds_52 : decode b_Cu_holds 52 = .ok (.invokestatic 71, 3) := by decide +kernel
theorem d_Cu_holds_55 : decode b_Cu_holds 55 = .ok (.ireturn, 1) := by decide +kernel
set_option maxHeartbeats 4000000 in
set_option maxRecDepth 100000 in
theorem c_Cu_holds (l : Launch) (E : kr_E) (A : Nat → Nat) (h pa ga gw G hc : Nat) (v : Nat → Nat) (H : Heap) (hE : kr_ok E) (hA : kr_A E A) (hP : kr_P E h pa ga gw kP G) (hV : kr_V E hc h) (hW : kr_W E v H) (ax ay : Nat) (hax : kr_out E ax) (hay : kr_out E ay) (hxh : ax < h) (hyh : ay < h) : Met l y_Cu_holds w_Cu_holds ({ frames := 4, cells := 0, slots := 0, locals := 97 }) (kq_P [.ref hc, .ref ax, .ref ay] H (kr_C E A)) (kq_Q (fun o1 H1 => o1 = some (.int (kq_z (decide (v ax < kP ∧ v ay < kP ∧ v ay * v ay % kP = kc_sq (v ax))))) ∧ ∃ w : Nat → Nat, kr_W E w H1 ∧ ∀ q, ¬ kr_fr h hc q → w q = v q)) 0 0 (kr_fr h hc) := by
  refine Met.ofW (cc := b_Cu_holds) (maxL := 3) (ret := (some .boolean)) (by decide) rfl ?_
  intro p e s m args below meth c s₁ B0 hml hv
  obtain ⟨rfl, hH, hC⟩ := hv
  have hx := B0.exec
  have hb := B0.bytes
  have hret := B0.returns
  have hts := atoms_spec (ws := w_Cu_holds) B0.pre
  have hown : s.vm.findClass R_Cu = some m.cls := findClass_of_methodNamed B0.named
  have hlocks := B0.notSynchronized
  rw [hH]
  have hl := lv_entry ([.ref hc, .ref ax, .ref ay]) (n := 3) (Nat.le_of_ble_eq_true rfl)
  rw [lg_entry_eq]
  generalize (lg_sl ([.ref hc, .ref ax, .ref ay]) ++ List.replicate (3 - (lg_sl ([.ref hc, .ref ax, .ref ay])).length) Slot.unset).toArray = ls at hl ⊢
  have hl : lv_has ls 3 [(0, .ref hc), (1, .ref ax), (2, .ref ay)] := hl
  have hB := hC.1
  have hT := kr_T hE hB
  have hK := hB.1
  have hhc := hV.2.2.2
  have hlc0 : ∀ q ∈ ([] : List Loc), kr_fr h hc q.base := fun q h => by cases h
  have hO := kr_obj hW hV.1 hV.2.1
  have h7 := hV.2.2.1 7 (by decide) (by decide)
  have h11 := hV.2.2.1 11 (by decide) (by decide)
  have hsx := kr_src hE hW hB (Or.inl hax)
  have hlx := kr_lt hE hW (Or.inl hax)
  have hsy := kr_src hE hW hB (Or.inl hay)
  have hly := kr_lt hE hW (Or.inl hay)
  have hsf := kr_src hE hW hB (Or.inr hA.1.1)
  have hlf := kr_lt hE hW (Or.inr hA.1.1)
  rw [kr_cst hW hA.1] at hsf hlf
  refine lv_aload_n hx hb d_Cu_holds_0 rfl (lv_at hl 1 rfl) ?_
  refine kq_getsN hx hb (kr_zat hW hC.2.2.1) hown hC.2.1.2.2.1 d_Cu_holds_1 ?_
  refine kq_call (va_runS (As := [.ref ax, .ref (A 0)]) (rest := []) ⟨hx, hb, hml, hown, hts⟩ (c_Wo_isBelow l H ax (A 0) (v ax) kP hlx hlf) (va_cwS 2 hts (kt_inS kt_w187 kt_w298 kt_w186 kt_w6) rfl rfl rfl (by decide +kernel) ⟨Nat.le_of_ble_eq_true rfl, Nat.le_of_ble_eq_true rfl⟩) (kq_preS (kq_st_r.both kq_st_r) (⟨hsx, hsf⟩)) rfl rfl hl.1 rfl (lv_room (Nat.le_of_ble_eq_true rfl)) d_Cu_holds_4 ⟨Nat.zero_le _, Nat.zero_le _⟩) (fun v9 H9 L9 hq9 hL9 => ?_)
  obtain ⟨rfl, e9⟩ := hq9
  rw [e9]
  clear e9
  refine W.eq (g2 := F0 m 7 ls [.int (kq_z (decide (v ax < kP)))]) rfl ?_
  have hlc1 := t_lL (free := kr_fr h hc) hlc0 (fun q z => (hL9 q z).elim)
  refine lv_if_eq hx hb d_Cu_holds_7 rfl (fun hc0 => ?_) (fun hc0 => ?_)
  · have hn := kq_z_eq.mp hc0
    refine lv_iconst (v := nI 0) hx hb d_Cu_holds_20 (by decide) ?_
    exact W.zret hx hb hret rfl (fun t ht _ => ⟨_, rfl, by rw [kq_z_f (fun q => hn q.1)], v, by rw [ht]; exact hW, fun _ _ => rfl⟩) hlc1 d_Cu_holds_21
  · have hx0 : v ax < kP := kq_z_ne.mp hc0
    refine lv_aload_n hx hb d_Cu_holds_10 rfl (lv_at hl 2 rfl) ?_
    refine kq_getsN hx hb (kr_zat hW hC.2.2.1) hown hC.2.1.2.2.1 d_Cu_holds_11 ?_
    refine kq_call (va_runS (As := [.ref ay, .ref (A 0)]) (rest := []) ⟨hx, hb, hml, hown, hts⟩ (c_Wo_isBelow l H ay (A 0) (v ay) kP hly hlf) (va_cwS 2 hts (kt_inS kt_w187 kt_w298 kt_w186 kt_w6) rfl rfl rfl (by decide +kernel) ⟨Nat.le_of_ble_eq_true rfl, Nat.le_of_ble_eq_true rfl⟩) (kq_preS (kq_st_r.both kq_st_r) (⟨hsy, hsf⟩)) rfl rfl hl.1 rfl (lv_room (Nat.le_of_ble_eq_true rfl)) d_Cu_holds_14 ⟨Nat.zero_le _, Nat.zero_le _⟩) (fun u2 H2 L2 hq2 hL2 => ?_)
    obtain ⟨rfl, e9⟩ := hq2
    rw [e9]
    clear e9
    refine W.eq (g2 := F0 m 17 ls [.int (kq_z (decide (v ay < kP)))]) rfl ?_
    have hlc2 := t_lL (free := kr_fr h hc) hlc1 (fun q z => (hL2 q z).elim)
    refine lv_if_ne hx hb d_Cu_holds_17 rfl (fun hc1 => ?_) (fun hc1 => ?_)
    · have hy0 : v ay < kP := kq_z_ne.mp hc1
      refine lv_aload_n hx hb d_Cu_holds_22 rfl (lv_at hl 0 rfl) ?_
      refine lv_aload_n hx hb d_Cu_holds_23 rfl (lv_at hl 0 rfl) ?_
      refine kq_get hx hb hts kt_F_Cu hown hK hO rfl 7 (by decide) kt_w106 rfl d_Cu_holds_24 ?_
      refine lv_aload_n hx hb d_Cu_holds_27 rfl (lv_at hl 1 rfl) ?_
      refine kq_call (va_runV (As := [.ref (hc + 7), .ref ax]) (rest := []) ⟨hx, hb, hml, hown, hts⟩ (c_Cu_putSquareOfY l E A h pa ga gw G hc v H hE hA hP hV hW ax hax hxh) (cwV 2 hts (kt_inV kt_w302 kt_w299 kt_w301 kt_s6 kt_w4) rfl rfl rfl (by decide +kernel) ⟨Nat.le_of_ble_eq_true rfl, Nat.le_of_ble_eq_true rfl⟩) (kq_p2V (kr_C_s2 E A) (hC) (kq_recv hC.1.1 hO rfl)) rfl rfl hl.1 rfl (lv_room (Nat.le_of_ble_eq_true rfl)) d_Cu_holds_28 ⟨Nat.zero_le _, Nat.zero_le _⟩) (fun u3 H3 L3 hq3 hL3 => ?_)
      obtain ⟨rfl, w3, hW3, e3, k3⟩ := hq3
      refine W.eq (g2 := F0 m 31 ls []) rfl ?_
      have hlc3 := t_lL (free := kr_fr h hc) hlc2 hL3
      have hO3 := kr_obj hW3 hV.1 hV.2.1
      have hOp3 := kr_obj hW3 hP.1 hP.2.1
      have y3 := k3 ay (by unfold kr_fr; omega)
      refine lv_aload_n hx hb d_Cu_holds_31 rfl (lv_at hl 0 rfl) ?_
      refine kq_get hx hb hts kt_F_Cu hown hK hO3 rfl 0 (by decide) kt_w99 rfl d_Cu_holds_32 ?_
      refine lv_aload_n hx hb d_Cu_holds_35 rfl (lv_at hl 0 rfl) ?_
      refine kq_get hx hb hts kt_F_Cu hown hK hO3 rfl 11 (by decide) kt_w110 rfl d_Cu_holds_36 ?_
      refine lv_aload_n hx hb d_Cu_holds_39 rfl (lv_at hl 2 rfl) ?_
      refine lv_aload_n hx hb d_Cu_holds_40 rfl (lv_at hl 2 rfl) ?_
      refine kq_call (va_runV (As := [.ref (hc + 11), .ref ay, .ref ay]) (rest := []) ⟨hx, hb, hml, hown, hts⟩ (c_Pr_product l E h pa ga gw kP G w3 H3 hE hP hW3 (hc + 11) ay ay h11 (Or.inl hay) (Or.inl hay)) (cwV 3 hts (kt_inV kt_w206 kt_w260 kt_w204 kt_w205 kt_w3) rfl rfl rfl (by decide +kernel) ⟨Nat.le_of_ble_eq_true rfl, Nat.le_of_ble_eq_true rfl⟩) (kq_preV (kr_st E) (hC.1) (kq_recv hC.1.1 hOp3 rfl)) rfl rfl hl.1 rfl (lv_room (Nat.le_of_ble_eq_true rfl)) d_Cu_holds_41 ⟨Nat.zero_le _, Nat.zero_le _⟩) (fun u4 H4 L4 hq4 hL4 => ?_)
      obtain ⟨rfl, w4, hW4, e4, o4⟩ := hq4
      refine W.eq (g2 := F0 m 44 ls []) rfl ?_
      have hlc4 := t_lL (free := kr_fr h hc) hlc3 (fun q z => by rcases hL4 q z with z | z | z <;> (rw [z]; unfold kr_fr; omega))
      have hO4 := kr_obj hW4 hV.1 hV.2.1
      have c4 : w4 (hc + 7) = kc_sq (v ax) := by rw [o4 _ (by omega) (by omega) (by omega), e3]
      rw [y3] at e4
      have hsc := kr_src hE hW4 hB (Or.inl h11)
      have hlc := kr_lt hE hW4 (Or.inl h11)
      have hsq := kr_src hE hW4 hB (Or.inl h7)
      have hlq := kr_lt hE hW4 (Or.inl h7)
      rw [e4] at hsc hlc
      rw [c4] at hsq hlq
      refine lv_aload_n hx hb d_Cu_holds_44 rfl (lv_at hl 0 rfl) ?_
      refine kq_get hx hb hts kt_F_Cu hown hK hO4 rfl 11 (by decide) kt_w110 rfl d_Cu_holds_45 ?_
      refine lv_aload_n hx hb d_Cu_holds_48 rfl (lv_at hl 0 rfl) ?_
      refine kq_get hx hb hts kt_F_Cu hown hK hO4 rfl 7 (by decide) kt_w106 rfl d_Cu_holds_49 ?_
      refine kq_call (va_runS (As := [.ref (hc + 11), .ref (hc + 7)]) (rest := []) ⟨hx, hb, hml, hown, hts⟩ (c_Wo_areEqual l H4 (hc + 11) (hc + 7) (v ay * v ay % kP) (kc_sq (v ax)) hlc hlq) (va_cwS 2 hts (kt_inS kt_w263 kt_w261 kt_w262 kt_w6) rfl rfl rfl (by decide +kernel) ⟨Nat.le_of_ble_eq_true rfl, Nat.le_of_ble_eq_true rfl⟩) (kq_preS (kq_st_r.both kq_st_r) (⟨hsc, hsq⟩)) rfl rfl hl.1 rfl (lv_room (Nat.le_of_ble_eq_true rfl)) d_Cu_holds_52 ⟨Nat.zero_le _, Nat.zero_le _⟩) (fun u5 H5 L5 hq5 hL5 => ?_)
      obtain ⟨rfl, e9⟩ := hq5
      rw [e9]
      clear e9
      refine W.eq (g2 := F0 m 55 ls [.int (kq_z (decide (v ay * v ay % kP = kc_sq (v ax))))]) rfl ?_
      refine W.zret hx hb hret (by unfold kq_z; split <;> rfl) (fun t ht _ => ⟨_, rfl, ?_, w4, by rw [ht]; exact hW4, fun q hq => ?_⟩) (t_lL (free := kr_fr h hc) hlc4 (fun q z => (hL5 q z).elim)) d_Cu_holds_55
      · by_cases hz : v ay * v ay % kP = kc_sq (v ax)
        · rw [kq_z_t hz, kq_z_t ⟨hx0, hy0, hz⟩]
        · rw [kq_z_f hz, kq_z_f (fun q => hz q.2.2)]
      · have hq1 := hq
        unfold kr_fr at hq1
        rw [o4 q (by omega) (by omega) (by omega)]
        exact k3 q hq
    · have hn := kq_z_eq.mp hc1
      refine lv_iconst (v := nI 0) hx hb d_Cu_holds_20 (by decide) ?_
      exact W.zret hx hb hret rfl (fun t ht _ => ⟨_, rfl, by rw [kq_z_f (fun q => hn q.2.1)], v, by rw [ht]; exact hW, fun _ _ => rfl⟩) hlc2 d_Cu_holds_21
end
section
/-! A field that is written; Curve.evenRoot, Spot.become (own rows). -/
section KPUT
variable {p : Program} {l : Launch} {e : Env} {R : Room} {s : State} {m : MethodId} {args : Array Value} {below : List Frame} {meth : Method} {c : Code} {H : Heap} {locs : List Loc} {cells slots : Nat} {Q : State → Prop}
variable {cc : ByteArray} {pc : Nat} {ls : Array Slot} {rest : List Value}
theorem kq_put {y : Cond} {own C : String} {T : u_T} {N ci index : Nat} {D : va_G} {tys : List (ClassId × FieldType)} {a : Nat} {fs : List Value} {v : Value} {ty : FieldType} (hexec : p.tables.exec = Jvm.exec) (hb : c.code = cc) (hts : ∀ w ∈ y :: kt_all, w.before args s = true) (hin : ∀ w ∈ u_ws C T N, w ∈ kt_all) (ty0 : Nat → FieldType) (hty : ∀ k, k < N → parseFieldDescriptor (T k).2.2.1 = some (ty0 k)) (hnm : ∀ a, a < N → ∀ b, b < N → a ≠ b → (T a).2.1 ≠ (T b).2.1) (hown : s.vm.findClass own = some m.cls) (hK : va_K D kr_cl tys s) (hP : va_P D kr_cl [(a, .inr (ci, fs))] H) (hc : kr_cl[ci]? = some (C, T, N)) (k : Nat) (hk : k < N) (hlink : Cond.fieldLink own index (T k).1 (T k).2.1 (T k).2.2.1 ∈ kt_all) (hfin : (T k).2.2.2 = false) (hd : parseFieldDescriptor (T k).2.2.1 = some ty) (hn : narrow ty v = v) (hfit : fits ty v = true) (hl : k < fs.length) (hdg : decode cc pc = .ok (.putfield index, 3))
    (kk : ∀ (H1 : Heap) (L : List Loc), va_P D kr_cl [(a, .inr (ci, fs.set k v))] H1 → H1.size = H.size → (∀ q : Nat, q ≠ a → H1[q]? = H[q]?) → (∀ q ∈ L, q.base = a) → W p l e R s m args below meth c H1 (locs ++ L) cells slots Q (F0 m (pc + 3) ls rest)) : W p l e R s m args below meth c H locs cells slots Q (F0 m pc ls (v :: .ref a :: rest)) := by
  have hin2 : ∀ w ∈ u_ws C T N, w ∈ y :: kt_all := fun w hw => List.mem_cons_of_mem _ (hin w hw)
  have hap := va_apart (own := own) hts hin2 ty0 hty hnm hK hc
  obtain ⟨r, h1, cell, q1, q2, q3, q4⟩ := hP 0 _ rfl
  have hr : r = (C, T, N) := Option.some.inj (h1.symm.trans hc)
  subst hr
  obtain ⟨hS, hfc, kC, hkC, hkind⟩ := hK.1 ci _ hc
  obtain ⟨cf, kf, fi, f, hi, hsl⟩ := hS k hk
  have hlay := hts _ (hin2 _ (u_in_lay hk))
  unfold u_lay at hlay
  rw [if_neg (by rw [hfin]; decide)] at hlay
  have hst := (u_facts hfc hkC (u_lays hts hin2 hk) hi).1
  have h6 := u_store hfc hkC hkind hlay hi hd hn hfit
  refine W.putK hexec hb (f := f) ⟨hown, hts _ (List.mem_cons_of_mem _ hlink), ⟨_, _, _, hi⟩, hst⟩ (by rw [q2]; exact h6) q1 q3 (by rw [hsl]; exact k2_hasslot (q4 k hk)) rfl rfl hdg fun H' e1 e2 e3 => ?_
  rw [hsl] at e1
  refine kk H' _ (fun j q hj => ?_) e2 e3 (fun q hq => ?_)
  · have h0 : j < 1 := (List.getElem?_eq_some_iff.mp hj).1
    rw [show j = 0 by omega] at hj
    cases hj
    exact ⟨_, hc, t_OB.to (V := updV (vp_V fs) k v) ⟨_, e1, q2, q3, t_set q4 hap hk v⟩ (fun j _ => vp_updV_set hl v j)⟩
  · rw [List.mem_singleton] at hq
    rw [hq]
end KPUT
/-- the world behind a Spot's change: rows w, the Spot's flag b, all else as it was -/
def kr_Wb (E : kr_E) (sp : Nat) (b : Bool) (w : Nat → Nat) (H1 : Heap) : Prop := ∃ H2 : Heap, kr_W E w H2 ∧ H1.size = H2.size ∧ (∀ q : Nat, q ≠ sp → H1[q]? = H2[q]?) ∧ va_P (kr_D E) kr_cl [(sp, .inr (2, [.ref (sp + 1), .ref (sp + 2), .int (kq_z b)]))] H1
theorem d_Cu_evenRoot_0 : decode b_Cu_evenRoot 0 = .ok (.aload_n 0, 1) := by decide +kernel
theorem d_Cu_evenRoot_1 : decode b_Cu_evenRoot 1 = .ok (.getfield 39, 3) := by decide +kernel
theorem d_Cu_evenRoot_4 : decode b_Cu_evenRoot 4 = .ok (.aload_n 2, 1) := by decide +kernel
theorem d_Cu_evenRoot_5 : decode b_Cu_evenRoot 5 = .ok (.invokestatic 49, 3) := by decide +kernel
theorem d_Cu_evenRoot_8 : decode b_Cu_evenRoot 8 = .ok (.aload_n 0, 1) := by decide +kernel
theorem d_Cu_evenRoot_9 : decode b_Cu_evenRoot 9 = .ok (.getfield 45, 3) := by decide +kernel
theorem d_Cu_evenRoot_12 : decode b_Cu_evenRoot 12 = .ok (.aload_n 0, 1) := by decide +kernel
theorem d_Cu_evenRoot_13 : decode b_Cu_evenRoot 13 = .ok (.getfield 39, 3) := by decide +kernel
theorem d_Cu_evenRoot_16 : decode b_Cu_evenRoot 16 = .ok (.invokevirtual 55, 3) := by decide +kernel
theorem d_Cu_evenRoot_19 : decode b_Cu_evenRoot 19 = .ok (.aload_n 0, 1) := by decide +kernel
theorem d_Cu_evenRoot_20 : decode b_Cu_evenRoot 20 = .ok (.getfield 45, 3) := by decide +kernel
theorem d_Cu_evenRoot_23 : decode b_Cu_evenRoot 23 = .ok (.aload_n 0, 1) := by decide +kernel
theorem d_Cu_evenRoot_24 : decode b_Cu_evenRoot 24 = .ok (.getfield 36, 3) := by decide +kernel
theorem d_Cu_evenRoot_27 : decode b_Cu_evenRoot 27 = .ok (.aload_n 0, 1) := by decide +kernel
theorem d_Cu_evenRoot_28 : decode b_Cu_evenRoot 28 = .ok (.getfield 39, 3) := by decide +kernel
theorem d_Cu_evenRoot_31 : decode b_Cu_evenRoot 31 = .ok (.getstatic 61, 3) := by decide +kernel
theorem d_Cu_evenRoot_34 : decode b_Cu_evenRoot 34 = .ok (.invokevirtual 64, 3) := by decide +kernel
theorem d_Cu_evenRoot_37 : decode b_Cu_evenRoot 37 = .ok (.aload_n 0, 1) := by decide +kernel
theorem d_Cu_evenRoot_38 : decode b_Cu_evenRoot 38 = .ok (.getfield 45, 3) := by decide +kernel
theorem d_Cu_evenRoot_41 : decode b_Cu_evenRoot 41 = .ok (.aload_n 0, 1) := by decide +kernel
theorem d_Cu_evenRoot_42 : decode b_Cu_evenRoot 42 = .ok (.getfield 42, 3) := by decide +kernel
theorem d_Cu_evenRoot_45 : decode b_Cu_evenRoot 45 = .ok (.aload_n 0, 1) := by decide +kernel
theorem d_Cu_evenRoot_46 : decode b_Cu_evenRoot 46 = .ok (.getfield 36, 3) := by decide +kernel
theorem d_Cu_evenRoot_49 : decode b_Cu_evenRoot 49 = .ok (.aload_n 0, 1) := by decide +kernel
theorem d_Cu_evenRoot_50 : decode b_Cu_evenRoot 50 = .ok (.getfield 36, 3) := by decide +kernel
theorem d_Cu_evenRoot_53 : decode b_Cu_evenRoot 53 = .ok (.invokevirtual 68, 3) := by decide +kernel
theorem d_Cu_evenRoot_56 : decode b_Cu_evenRoot 56 = .ok (.aload_n 0, 1) := by decide +kernel
theorem d_Cu_evenRoot_57 : decode b_Cu_evenRoot 57 = .ok (.getfield 42, 3) := by decide +kernel
theorem d_Cu_evenRoot_60 : decode b_Cu_evenRoot 60 = .ok (.aload_n 0, 1) := by decide +kernel
theorem d_Cu_evenRoot_61 : decode b_Cu_evenRoot 61 = .ok (.getfield 39, 3) := by decide +kernel
theorem d_Cu_evenRoot_64 : decode b_Cu_evenRoot 64 = .ok (.invokestatic 71, 3) := by decide +kernel
theorem d_Cu_evenRoot_67 : decode b_Cu_evenRoot 67 = .ok (.ifCond .ne 5, 3) := by decide +kernel
theorem d_Cu_evenRoot_70 : decode b_Cu_evenRoot 70 = .ok (.iconst 0, 1) := by decide +kernel
theorem d_Cu_evenRoot_71 : decode b_Cu_evenRoot 71 = .ok (.ireturn, 1) := by decide +kernel
theorem d_Cu_evenRoot_72 : decode b_Cu_evenRoot 72 = .ok (.aload_n 0, 1) := by decide +kernel
theorem d_Cu_evenRoot_73 : decode b_Cu_evenRoot 73 = .ok (.getfield 36, 3) := by decide +kernel
theorem d_Cu_evenRoot_76 : decode b_Cu_evenRoot 76 = .ok (.invokestatic 75, 3) := by decide +kernel
theorem d_Cu_evenRoot_79 : decode b_Cu_evenRoot 79 = .ok (.ifCond .eq 21, 3) := by decide +kernel
theorem d_Cu_evenRoot_82 : decode b_Cu_evenRoot 82 = .ok (.aload_n 0, 1) := by decide +kernel
theorem d_Cu_evenRoot_83 : decode b_Cu_evenRoot 83 = .ok (.getfield 45, 3) := by decide +kernel
theorem d_Cu_evenRoot_86 : decode b_Cu_evenRoot 86 = .ok (.aload_n 0, 1) := by decide +kernel
theorem d_Cu_evenRoot_87 : decode b_Cu_evenRoot 87 = .ok (.getfield 36, 3) := by decide +kernel
theorem d_Cu_evenRoot_90 : decode b_Cu_evenRoot 90 = .ok (.getstatic 79, 3) := by decide +kernel
theorem d_Cu_evenRoot_93 : decode b_Cu_evenRoot 93 = .ok (.aload_n 0, 1) := by decide +kernel
theorem d_Cu_evenRoot_94 : decode b_Cu_evenRoot 94 = .ok (.getfield 36, 3) := by decide +kernel
theorem d_Cu_evenRoot_97 : decode b_Cu_evenRoot 97 = .ok (.invokevirtual 82, 3) := by decide +kernel
theorem d_Cu_evenRoot_100 : decode b_Cu_evenRoot 100 = .ok (.aload_n 1, 1) := by decide +kernel
theorem d_Cu_evenRoot_101 : decode b_Cu_evenRoot 101 = .ok (.aload_n 0, 1) := by decide +kernel
theorem d_Cu_evenRoot_102 : decode b_Cu_evenRoot 102 = .ok (.getfield 36, 3) := by decide +kernel
theorem d_Cu_evenRoot_105 : decode b_Cu_evenRoot 105 = .ok (.invokestatic 49, 3) := by decide +kernel
theorem d_Cu_evenRoot_108 : decode b_Cu_evenRoot 108 = .ok (.iconst 1, 1) := by decide +kernel
theorem d_Cu_evenRoot_109 : decode b_Cu_evenRoot 109 = .ok (.ireturn, 1) := by decide +kernel
set_option maxHeartbeats 4000000 in
set_option maxRecDepth 100000 in
theorem c_Cu_evenRoot (l : Launch) (E : kr_E) (A : Nat → Nat) (h pa ga gw G hc : Nat) (v : Nat → Nat) (H : Heap) (hE : kr_ok E) (hA : kr_A E A) (hP : kr_P E h pa ga gw kP G) (hV : kr_V E hc h) (hW : kr_W E v H) (r a : Nat) (hr : kr_out E r) (ha : kr_out E a) (hr0 : r < h ∨ r = hc + 5) (ha0 : a < h ∨ a = hc + 7) : Met l y_Cu_evenRoot w_Cu_evenRoot ({ frames := 4, cells := 0, slots := 0, locals := 99 }) (kq_P [.ref hc, .ref r, .ref a] H (kr_C E A)) (kq_Q (fun o1 H1 => o1 = some (.int (kq_z (decide (kc_root (v a) * kc_root (v a) % kP = v a % kP)))) ∧ ∃ w : Nat → Nat, kr_W E w H1 ∧ w r = (if kc_root (v a) * kc_root (v a) % kP = v a % kP then kc_even (kc_root (v a)) else v r) ∧ ∀ q, q ≠ r → ¬ kr_fr h hc q → w q = v q)) 0 0 (fun q => q = r ∨ kr_fr h hc q) := by
  refine Met.ofW (cc := b_Cu_evenRoot) (maxL := 3) (ret := (some .boolean)) (by decide) rfl ?_
  intro p e s m args below meth c s₁ B0 hml hv
  obtain ⟨rfl, hH, hC⟩ := hv
  have hx := B0.exec
  have hb := B0.bytes
  have hret := B0.returns
  have hts := atoms_spec (ws := w_Cu_evenRoot) B0.pre
  have hown : s.vm.findClass R_Cu = some m.cls := findClass_of_methodNamed B0.named
  have hlocks := B0.notSynchronized
  rw [hH]
  have hl := lv_entry ([.ref hc, .ref r, .ref a]) (n := 3) (Nat.le_of_ble_eq_true rfl)
  rw [lg_entry_eq]
  generalize (lg_sl ([.ref hc, .ref r, .ref a]) ++ List.replicate (3 - (lg_sl ([.ref hc, .ref r, .ref a])).length) Slot.unset).toArray = ls at hl ⊢
  have hl : lv_has ls 3 [(0, .ref hc), (1, .ref r), (2, .ref a)] := hl
  have hB := hC.1
  have hT := kr_T hE hB
  have hK := hB.1
  have hhc := hV.2.2.2
  have h9 := hV.2.2.1 9 (by decide) (by decide)
  have h10 := hV.2.2.1 10 (by decide) (by decide)
  have h11 := hV.2.2.1 11 (by decide) (by decide)
  have hlc0 : ∀ q ∈ ([] : List Loc), q.base = r ∨ kr_fr h hc q.base := fun q h => by cases h
  have hO := kr_obj hW hV.1 hV.2.1
  have hsa := kr_src hE hW hB (Or.inl ha)
  have hla := kr_lt hE hW (Or.inl ha)
  refine lv_aload_n hx hb d_Cu_evenRoot_0 rfl (lv_at hl 0 rfl) ?_
  refine kq_get hx hb hts kt_F_Cu hown hK hO rfl 10 (by decide) kt_w109 rfl d_Cu_evenRoot_1 ?_
  refine lv_aload_n hx hb d_Cu_evenRoot_4 rfl (lv_at hl 2 rfl) ?_
  refine kq_call (va_runS (As := [.ref (hc + 10), .ref a]) (rest := []) ⟨hx, hb, hml, hown, hts⟩ (c_Wo_copy l (kr_c E) H (hc + 10) a (v (hc + 10)) (v a) (kr_row hW h10)) (va_cwS 2 hts (kt_inS kt_w222 kt_w255 kt_w221 kt_w6) rfl rfl rfl (by decide +kernel) ⟨Nat.le_of_ble_eq_true rfl, Nat.le_of_ble_eq_true rfl⟩) (kq_preS (kq_st_A.both kq_st_r) (⟨hT, hsa⟩)) rfl rfl hl.1 rfl (lv_room (Nat.le_of_ble_eq_true rfl)) d_Cu_evenRoot_5 ⟨Nat.zero_le _, Nat.zero_le _⟩) (fun u1 H1 L1 hq1 hL1 => ?_)
  obtain ⟨rfl, rfl⟩ := hq1
  refine W.eq (g2 := F0 m 8 ls []) rfl ?_
  have hlc1 := t_lL (free := (fun q => q = r ∨ kr_fr h hc q)) hlc0 (fun q z => Or.inr (by rw [hL1 q z]; unfold kr_fr; omega))
  obtain ⟨w1, f1, o1, hW1⟩ : ∃ w : Nat → Nat, w (hc + 10) = v a ∧ (∀ q, q ≠ hc + 10 → w q = v q) ∧ kr_W E w (kq_set H (hc + 10) (kq_L (kr_c E) 8 (v a))) := ⟨_, kq_up_at, fun q hq => kq_up_ne hq, kr_put hE hW h10 hla⟩
  have hO1 := kr_obj hW1 hV.1 hV.2.1
  have hOp1 := kr_obj hW1 hP.1 hP.2.1
  refine lv_aload_n hx hb d_Cu_evenRoot_8 rfl (lv_at hl 0 rfl) ?_
  refine kq_get hx hb hts kt_F_Cu hown hK hO1 rfl 0 (by decide) kt_w99 rfl d_Cu_evenRoot_9 ?_
  refine lv_aload_n hx hb d_Cu_evenRoot_12 rfl (lv_at hl 0 rfl) ?_
  refine kq_get hx hb hts kt_F_Cu hown hK hO1 rfl 10 (by decide) kt_w109 rfl d_Cu_evenRoot_13 ?_
  refine kq_call (va_runV (As := [.ref (hc + 10)]) (rest := []) ⟨hx, hb, hml, hown, hts⟩ (c_Pr_trim l E h pa ga gw kP G w1 _ hE hP hW1 (hc + 10) h10) (cwV 1 hts (kt_inV kt_w184 kt_w256 kt_w182 kt_w183 kt_w3) rfl rfl rfl (by decide +kernel) ⟨Nat.le_of_ble_eq_true rfl, Nat.le_of_ble_eq_true rfl⟩) (kq_preV (kr_st E) (hB) (kq_recv hB.1 hOp1 rfl)) rfl rfl hl.1 rfl (lv_room (Nat.le_of_ble_eq_true rfl)) d_Cu_evenRoot_16 ⟨Nat.zero_le _, Nat.zero_le _⟩) (fun u2 H2 L2 hq2 hL2 => ?_)
  obtain ⟨rfl, hX2⟩ := hq2
  refine W.eq (g2 := F0 m 19 ls []) rfl ?_
  have hlc2 := t_lL (free := (fun q => q = r ∨ kr_fr h hc q)) hlc1 (fun q z => Or.inr (by rw [hL2 q z]; unfold kr_fr; omega))
  obtain ⟨w2, f2, o2, hW2⟩ : ∃ w : Nat → Nat, w (hc + 10) = w1 (hc + 10) % kP ∧ (∀ q, q ≠ hc + 10 → w q = w1 q) ∧ kr_W E w H2 := ⟨_, kq_up_at, fun q hq => kq_up_ne hq, hX2⟩
  rw [f1] at f2
  have hO2 := kr_obj hW2 hV.1 hV.2.1
  have hOp2 := kr_obj hW2 hP.1 hP.2.1
  refine lv_aload_n hx hb d_Cu_evenRoot_19 rfl (lv_at hl 0 rfl) ?_
  refine kq_get hx hb hts kt_F_Cu hown hK hO2 rfl 0 (by decide) kt_w99 rfl d_Cu_evenRoot_20 ?_
  refine lv_aload_n hx hb d_Cu_evenRoot_23 rfl (lv_at hl 0 rfl) ?_
  refine kq_get hx hb hts kt_F_Cu hown hK hO2 rfl 9 (by decide) kt_w108 rfl d_Cu_evenRoot_24 ?_
  refine lv_aload_n hx hb d_Cu_evenRoot_27 rfl (lv_at hl 0 rfl) ?_
  refine kq_get hx hb hts kt_F_Cu hown hK hO2 rfl 10 (by decide) kt_w109 rfl d_Cu_evenRoot_28 ?_
  refine kq_getsN hx hb (kr_zat hW2 hC.2.2.2.2.2.1) hown hC.2.1.2.1 d_Cu_evenRoot_31 ?_
  refine kq_call (va_runV (As := [.ref (hc + 9), .ref (hc + 10), .ref (A 3)]) (rest := []) ⟨hx, hb, hml, hown, hts⟩ (c_Pr_power l E A h pa ga gw kP G w2 H2 hE hA hP hW2 (hc + 9) (hc + 10) (A 3) h9 (Or.inl h10) hA.2.2.2.1.1) (cwV 3 hts (kt_inV kt_w240 kt_w259 kt_w238 kt_w239 kt_w3) rfl rfl rfl (by decide +kernel) ⟨Nat.le_of_ble_eq_true rfl, Nat.le_of_ble_eq_true rfl⟩) (kq_p2V (kr_C_s2 E A) (hC) (kq_recv hB.1 hOp2 rfl)) rfl rfl hl.1 rfl (lv_room (Nat.le_of_ble_eq_true rfl)) d_Cu_evenRoot_34 ⟨Nat.zero_le _, Nat.zero_le _⟩) (fun u3 H3 L3 hq3 hL3 => ?_)
  obtain ⟨rfl, w3, hW3, f3, o3⟩ := hq3
  refine W.eq (g2 := F0 m 37 ls []) rfl ?_
  have hlc3 := t_lL (free := (fun q => q = r ∨ kr_fr h hc q)) hlc2 (fun q z => Or.inr (by rcases hL3 q z with z | z | z | z | z <;> (rw [z]; unfold kr_fr; omega)))
  have e3 : w3 (hc + 9) = kc_root (v a) := by
    rw [f3, f2, kr_cst hW2 hA.2.2.2.1]
    rfl
  have g3 : w3 (hc + 10) = v a % kP := by rw [o3 _ (by omega) (by omega) (by omega) (by omega) (by omega), f2]
  have hO3 := kr_obj hW3 hV.1 hV.2.1
  have hOp3 := kr_obj hW3 hP.1 hP.2.1
  refine lv_aload_n hx hb d_Cu_evenRoot_37 rfl (lv_at hl 0 rfl) ?_
  refine kq_get hx hb hts kt_F_Cu hown hK hO3 rfl 0 (by decide) kt_w99 rfl d_Cu_evenRoot_38 ?_
  refine lv_aload_n hx hb d_Cu_evenRoot_41 rfl (lv_at hl 0 rfl) ?_
  refine kq_get hx hb hts kt_F_Cu hown hK hO3 rfl 11 (by decide) kt_w110 rfl d_Cu_evenRoot_42 ?_
  refine lv_aload_n hx hb d_Cu_evenRoot_45 rfl (lv_at hl 0 rfl) ?_
  refine kq_get hx hb hts kt_F_Cu hown hK hO3 rfl 9 (by decide) kt_w108 rfl d_Cu_evenRoot_46 ?_
  refine lv_aload_n hx hb d_Cu_evenRoot_49 rfl (lv_at hl 0 rfl) ?_
  refine kq_get hx hb hts kt_F_Cu hown hK hO3 rfl 9 (by decide) kt_w108 rfl d_Cu_evenRoot_50 ?_
  refine kq_call (va_runV (As := [.ref (hc + 11), .ref (hc + 9), .ref (hc + 9)]) (rest := []) ⟨hx, hb, hml, hown, hts⟩ (c_Pr_product l E h pa ga gw kP G w3 H3 hE hP hW3 (hc + 11) (hc + 9) (hc + 9) h11 (Or.inl h9) (Or.inl h9)) (cwV 3 hts (kt_inV kt_w206 kt_w260 kt_w204 kt_w205 kt_w3) rfl rfl rfl (by decide +kernel) ⟨Nat.le_of_ble_eq_true rfl, Nat.le_of_ble_eq_true rfl⟩) (kq_preV (kr_st E) (hB) (kq_recv hB.1 hOp3 rfl)) rfl rfl hl.1 rfl (lv_room (Nat.le_of_ble_eq_true rfl)) d_Cu_evenRoot_53 ⟨Nat.zero_le _, Nat.zero_le _⟩) (fun u4 H4 L4 hq4 hL4 => ?_)
  obtain ⟨rfl, w4, hW4, f4, o4⟩ := hq4
  refine W.eq (g2 := F0 m 56 ls []) rfl ?_
  have hlc4 := t_lL (free := (fun q => q = r ∨ kr_fr h hc q)) hlc3 (fun q z => Or.inr (by rcases hL4 q z with z | z | z <;> (rw [z]; unfold kr_fr; omega)))
  rw [e3] at f4
  have e4 : w4 (hc + 9) = kc_root (v a) := by rw [o4 _ (by omega) (by omega) (by omega), e3]
  have g4 : w4 (hc + 10) = v a % kP := by rw [o4 _ (by omega) (by omega) (by omega), g3]
  have ho4 : ∀ q, ¬ kr_fr h hc q → w4 q = v q := fun q hq => by
    have hq1 := hq
    unfold kr_fr at hq1
    rw [o4 q (by omega) (by omega) (by omega), o3 q (by omega) (by omega) (by omega) (by omega) (by omega), o2 q (by omega), o1 q (by omega)]
  have hr4 : w4 r = v r := by
    rcases hr0 with z | z
    · exact ho4 r (by unfold kr_fr; omega)
    · rw [o4 r (by omega) (by omega) (by omega), o3 r (by omega) (by omega) (by omega) (by omega) (by omega), o2 r (by omega), o1 r (by omega)]
  have hO4 := kr_obj hW4 hV.1 hV.2.1
  have hs11 := kr_src hE hW4 hB (Or.inl h11)
  have hl11 := kr_lt hE hW4 (Or.inl h11)
  have hs10 := kr_src hE hW4 hB (Or.inl h10)
  have hl10 := kr_lt hE hW4 (Or.inl h10)
  have hs9 := kr_src hE hW4 hB (Or.inl h9)
  have hl9 := kr_lt hE hW4 (Or.inl h9)
  rw [f4] at hs11 hl11
  rw [g4] at hs10 hl10
  rw [e4] at hs9 hl9
  refine lv_aload_n hx hb d_Cu_evenRoot_56 rfl (lv_at hl 0 rfl) ?_
  refine kq_get hx hb hts kt_F_Cu hown hK hO4 rfl 11 (by decide) kt_w110 rfl d_Cu_evenRoot_57 ?_
  refine lv_aload_n hx hb d_Cu_evenRoot_60 rfl (lv_at hl 0 rfl) ?_
  refine kq_get hx hb hts kt_F_Cu hown hK hO4 rfl 10 (by decide) kt_w109 rfl d_Cu_evenRoot_61 ?_
  refine kq_call (va_runS (As := [.ref (hc + 11), .ref (hc + 10)]) (rest := []) ⟨hx, hb, hml, hown, hts⟩ (c_Wo_areEqual l H4 (hc + 11) (hc + 10) (kc_root (v a) * kc_root (v a) % kP) (v a % kP) hl11 hl10) (va_cwS 2 hts (kt_inS kt_w263 kt_w261 kt_w262 kt_w6) rfl rfl rfl (by decide +kernel) ⟨Nat.le_of_ble_eq_true rfl, Nat.le_of_ble_eq_true rfl⟩) (kq_preS (kq_st_r.both kq_st_r) (⟨hs11, hs10⟩)) rfl rfl hl.1 rfl (lv_room (Nat.le_of_ble_eq_true rfl)) d_Cu_evenRoot_64 ⟨Nat.zero_le _, Nat.zero_le _⟩) (fun u5 H5 L5 hq5 hL5 => ?_)
  obtain ⟨rfl, e9⟩ := hq5
  rw [e9]
  clear e9
  refine W.eq (g2 := F0 m 67 ls [.int (kq_z (decide (kc_root (v a) * kc_root (v a) % kP = v a % kP)))]) rfl ?_
  have hlc5 := t_lL (free := (fun q => q = r ∨ kr_fr h hc q)) hlc4 (fun q z => (hL5 q z).elim)
  refine lv_if_ne hx hb d_Cu_evenRoot_67 rfl (fun hc0 => ?_) (fun hc0 => ?_)
  · have hrt : kc_root (v a) * kc_root (v a) % kP = v a % kP := kq_z_ne.mp hc0
    refine lv_aload_n hx hb d_Cu_evenRoot_72 rfl (lv_at hl 0 rfl) ?_
    refine kq_get hx hb hts kt_F_Cu hown hK hO4 rfl 9 (by decide) kt_w108 rfl d_Cu_evenRoot_73 ?_
    refine kq_call (va_runS (As := [.ref (hc + 9)]) (rest := []) ⟨hx, hb, hml, hown, hts⟩ (c_Wo_isOdd l H4 (hc + 9) (kc_root (v a))) (va_cwS 1 hts (kt_inS kt_w266 kt_w264 kt_w265 kt_w6) rfl rfl rfl (by decide +kernel) ⟨Nat.le_of_ble_eq_true rfl, Nat.le_of_ble_eq_true rfl⟩) (kq_preS (kq_st_r) (hs9)) rfl rfl hl.1 rfl (lv_room (Nat.le_of_ble_eq_true rfl)) d_Cu_evenRoot_76 ⟨Nat.zero_le _, Nat.zero_le _⟩) (fun u6 H6 L6 hq6 hL6 => ?_)
    obtain ⟨rfl, e9⟩ := hq6
    rw [e9]
    clear e9
    refine W.eq (g2 := F0 m 79 ls [.int (kq_z (decide (kc_root (v a) % 2 = 1)))]) rfl ?_
    have hlc6 := t_lL (free := (fun q => q = r ∨ kr_fr h hc q)) hlc5 (fun q z => (hL6 q z).elim)
    refine lv_if_eq hx hb d_Cu_evenRoot_79 rfl (fun hc1 => ?_) (fun hc1 => ?_)
    · have hev : ¬ kc_root (v a) % 2 = 1 := kq_z_eq.mp hc1
      have e7 : w4 (hc + 9) = kc_even (kc_root (v a)) := by
        rw [e4]
        unfold kc_even
        rw [if_neg hev]
      have hOz := kr_obj hW4 hV.1 hV.2.1
      have hsz := kr_src hE hW4 hB (Or.inl h9)
      have hlz := kr_lt hE hW4 (Or.inl h9)
      rw [e7] at hsz hlz
      refine lv_aload_n hx hb d_Cu_evenRoot_100 rfl (lv_at hl 1 rfl) ?_
      refine lv_aload_n hx hb d_Cu_evenRoot_101 rfl (lv_at hl 0 rfl) ?_
      refine kq_get hx hb hts kt_F_Cu hown hK hOz rfl 9 (by decide) kt_w108 rfl d_Cu_evenRoot_102 ?_
      refine kq_call (va_runS (As := [.ref r, .ref (hc + 9)]) (rest := []) ⟨hx, hb, hml, hown, hts⟩ (c_Wo_copy l (kr_c E) H4 r (hc + 9) (w4 r) (kc_even (kc_root (v a))) (kr_row hW4 hr)) (va_cwS 2 hts (kt_inS kt_w222 kt_w255 kt_w221 kt_w6) rfl rfl rfl (by decide +kernel) ⟨Nat.le_of_ble_eq_true rfl, Nat.le_of_ble_eq_true rfl⟩) (kq_preS (kq_st_A.both kq_st_r) (⟨hT, hsz⟩)) rfl rfl hl.1 rfl (lv_room (Nat.le_of_ble_eq_true rfl)) d_Cu_evenRoot_105 ⟨Nat.zero_le _, Nat.zero_le _⟩) (fun u8 H8 L8 hq8 hL8 => ?_)
      obtain ⟨rfl, rfl⟩ := hq8
      refine W.eq (g2 := F0 m 108 ls []) rfl ?_
      have hWz := kr_put hE hW4 hr hlz
      refine lv_iconst (v := nI 1) hx hb d_Cu_evenRoot_108 (by decide) ?_
      refine W.zret hx hb hret rfl (fun t ht _ => ⟨_, rfl, by rw [kq_z_t hrt], _, by rw [ht]; exact hWz, ?_, fun q q1 q2 => ?_⟩) (t_lL (free := (fun q => q = r ∨ kr_fr h hc q)) hlc6 (fun q z => Or.inl (hL8 q z))) d_Cu_evenRoot_109
      · rw [kq_up_at, if_pos hrt]
      · rw [kq_up_ne q1]
        exact ho4 q q2
    · have hod : kc_root (v a) % 2 = 1 := kq_z_ne.mp hc1
      have hOp4 := kr_obj hW4 hP.1 hP.2.1
      refine lv_aload_n hx hb d_Cu_evenRoot_82 rfl (lv_at hl 0 rfl) ?_
      refine kq_get hx hb hts kt_F_Cu hown hK hO4 rfl 0 (by decide) kt_w99 rfl d_Cu_evenRoot_83 ?_
      refine lv_aload_n hx hb d_Cu_evenRoot_86 rfl (lv_at hl 0 rfl) ?_
      refine kq_get hx hb hts kt_F_Cu hown hK hO4 rfl 9 (by decide) kt_w108 rfl d_Cu_evenRoot_87 ?_
      refine kq_getsN hx hb (kr_zat hW4 hC.2.2.1) hown hC.2.1.2.2.1 d_Cu_evenRoot_90 ?_
      refine lv_aload_n hx hb d_Cu_evenRoot_93 rfl (lv_at hl 0 rfl) ?_
      refine kq_get hx hb hts kt_F_Cu hown hK hO4 rfl 9 (by decide) kt_w108 rfl d_Cu_evenRoot_94 ?_
      refine kq_call (va_runV (As := [.ref (hc + 9), .ref (A 0), .ref (hc + 9)]) (rest := []) ⟨hx, hb, hml, hown, hts⟩ (c_Pr_difference l E h pa ga gw kP G w4 H4 hE hP hW4 (hc + 9) (A 0) (hc + 9) h9 (Or.inr hA.1.1) (Or.inl h9)) (cwV 3 hts (kt_inV kt_w198 kt_w268 kt_w196 kt_w197 kt_w3) rfl rfl rfl (by decide +kernel) ⟨Nat.le_of_ble_eq_true rfl, Nat.le_of_ble_eq_true rfl⟩) (kq_preV (kr_st E) (hB) (kq_recv hB.1 hOp4 rfl)) rfl rfl hl.1 rfl (lv_room (Nat.le_of_ble_eq_true rfl)) d_Cu_evenRoot_97 ⟨Nat.zero_le _, Nat.zero_le _⟩) (fun u7 H7 L7 hq7 hL7 => ?_)
      obtain ⟨rfl, hX7⟩ := hq7
      refine W.eq (g2 := F0 m 100 ls []) rfl ?_
      have hlc7 := t_lL (free := (fun q => q = r ∨ kr_fr h hc q)) hlc6 (fun q z => Or.inr (by rw [hL7 q z]; unfold kr_fr; omega))
      obtain ⟨w7, f7, o7, hW7⟩ : ∃ w : Nat → Nat, w (hc + 9) = kp_dif kP (w4 (A 0)) (w4 (hc + 9)) ∧ (∀ q, q ≠ hc + 9 → w q = w4 q) ∧ kr_W E w H7 := ⟨_, kq_up_at, fun q hq => kq_up_ne hq, hX7⟩
      have e7 : w7 (hc + 9) = kc_even (kc_root (v a)) := by
        rw [f7, e4, kr_cst hW4 hA.1]
        unfold kc_even
        rw [if_pos hod]
      have hOz := kr_obj hW7 hV.1 hV.2.1
      have hsz := kr_src hE hW7 hB (Or.inl h9)
      have hlz := kr_lt hE hW7 (Or.inl h9)
      rw [e7] at hsz hlz
      refine lv_aload_n hx hb d_Cu_evenRoot_100 rfl (lv_at hl 1 rfl) ?_
      refine lv_aload_n hx hb d_Cu_evenRoot_101 rfl (lv_at hl 0 rfl) ?_
      refine kq_get hx hb hts kt_F_Cu hown hK hOz rfl 9 (by decide) kt_w108 rfl d_Cu_evenRoot_102 ?_
      refine kq_call (va_runS (As := [.ref r, .ref (hc + 9)]) (rest := []) ⟨hx, hb, hml, hown, hts⟩ (c_Wo_copy l (kr_c E) H7 r (hc + 9) (w7 r) (kc_even (kc_root (v a))) (kr_row hW7 hr)) (va_cwS 2 hts (kt_inS kt_w222 kt_w255 kt_w221 kt_w6) rfl rfl rfl (by decide +kernel) ⟨Nat.le_of_ble_eq_true rfl, Nat.le_of_ble_eq_true rfl⟩) (kq_preS (kq_st_A.both kq_st_r) (⟨hT, hsz⟩)) rfl rfl hl.1 rfl (lv_room (Nat.le_of_ble_eq_true rfl)) d_Cu_evenRoot_105 ⟨Nat.zero_le _, Nat.zero_le _⟩) (fun u8 H8 L8 hq8 hL8 => ?_)
      obtain ⟨rfl, rfl⟩ := hq8
      refine W.eq (g2 := F0 m 108 ls []) rfl ?_
      have hWz := kr_put hE hW7 hr hlz
      refine lv_iconst (v := nI 1) hx hb d_Cu_evenRoot_108 (by decide) ?_
      refine W.zret hx hb hret rfl (fun t ht _ => ⟨_, rfl, by rw [kq_z_t hrt], _, by rw [ht]; exact hWz, ?_, fun q q1 q2 => ?_⟩) (t_lL (free := (fun q => q = r ∨ kr_fr h hc q)) hlc7 (fun q z => Or.inl (hL8 q z))) d_Cu_evenRoot_109
      · rw [kq_up_at, if_pos hrt]
      · rw [kq_up_ne q1]
        have q3 := q2
        unfold kr_fr at q3
        rw [o7 q (by omega)]
        exact ho4 q q2
  · have hrt : ¬ kc_root (v a) * kc_root (v a) % kP = v a % kP := kq_z_eq.mp hc0
    refine lv_iconst (v := nI 0) hx hb d_Cu_evenRoot_70 (by decide) ?_
    refine W.zret hx hb hret rfl (fun t ht _ => ⟨_, rfl, by rw [kq_z_f hrt], w4, by rw [ht]; exact hW4, ?_, fun q _ q2 => ho4 q q2⟩) hlc5 d_Cu_evenRoot_71
    rw [if_neg hrt]
    exact hr4
theorem d_Sp_become_0 : decode b_Sp_become 0 = .ok (.aload_n 0, 1) := by decide +kernel
theorem d_Sp_become_1 : decode b_Sp_become 1 = .ok (.getfield 9, 3) := by decide +kernel
theorem d_Sp_become_4 : decode b_Sp_become 4 = .ok (.aload_n 1, 1) := by decide +kernel
theorem d_Sp_become_5 : decode b_Sp_become 5 = .ok (.invokestatic 22, 3) := by decide +kernel
theorem d_Sp_become_8 : decode b_Sp_become 8 = .ok (.aload_n 0, 1) := by decide +kernel
theorem d_Sp_become_9 : decode b_Sp_become 9 = .ok (.getfield 15, 3) := by decide +kernel
theorem d_Sp_become_12 : decode b_Sp_become 12 = .ok (.aload_n 2, 1) := by decide +kernel
theorem d_Sp_become_13 : decode b_Sp_become 13 = .ok (.invokestatic 22, 3) := by decide +kernel
theorem d_Sp_become_16 : decode b_Sp_become 16 = .ok (.aload_n 0, 1) := by decide +kernel
theorem d_Sp_become_17 : decode b_Sp_become 17 = .ok (.iconst 0, 1) := by decide +kernel
theorem d_Sp_become_18 : decode b_Sp_become 18 = .ok (.putfield 18, 3) := by decide +kernel
theorem d_Sp_become_21 : decode b_Sp_become 21 = .ok (.return_, 1) := by decide +kernel
set_option maxHeartbeats 4000000 in
set_option maxRecDepth 100000 in
theorem c_Sp_become (l : Launch) (E : kr_E) (v : Nat → Nat) (H : Heap) (hE : kr_ok E) (hW : kr_W E v H) (sp : Nat) (b : Bool) (hS : kr_Sp E sp b) (ax ay : Nat) (hax : kr_in E ax) (hay : kr_in E ay) (hne : ay ≠ sp + 1) : Met l y_Sp_become w_Sp_become ({ frames := 2, cells := 0, slots := 0, locals := 41 }) (kq_P [.ref sp, .ref ax, .ref ay] H (kr_B E)) (kq_Q (fun o1 H1 => o1 = none ∧ kr_Wb E sp false (va_up (va_up v (sp + 1) (v ax)) (sp + 2) (v ay)) H1)) 0 0 (fun q => q = sp ∨ q = sp + 1 ∨ q = sp + 2) := by
  refine Met.ofW (cc := b_Sp_become) (maxL := 3) (ret := none) (by decide) rfl ?_
  intro p e s m args below meth c s₁ B0 hml hv
  obtain ⟨rfl, hH, hB⟩ := hv
  have hx := B0.exec
  have hb := B0.bytes
  have hret := B0.returns
  have hts := atoms_spec (ws := w_Sp_become) B0.pre
  have hown : s.vm.findClass R_Sp = some m.cls := findClass_of_methodNamed B0.named
  have hlocks := B0.notSynchronized
  rw [hH]
  have hl := lv_entry ([.ref sp, .ref ax, .ref ay]) (n := 3) (Nat.le_of_ble_eq_true rfl)
  rw [lg_entry_eq]
  generalize (lg_sl ([.ref sp, .ref ax, .ref ay]) ++ List.replicate (3 - (lg_sl ([.ref sp, .ref ax, .ref ay])).length) Slot.unset).toArray = ls at hl ⊢
  have hl : lv_has ls 3 [(0, .ref sp), (1, .ref ax), (2, .ref ay)] := hl
  have hT := kr_T hE hB
  have hK := hB.1
  have hO := kr_obj hW hS.1 hS.2.1
  have hsx := kr_src hE hW hB hax
  have hlx := kr_lt hE hW hax
  refine lv_aload_n hx hb d_Sp_become_0 rfl (lv_at hl 0 rfl) ?_
  refine kq_get hx hb hts kt_F_Sp hown hK hO rfl 0 (by decide) kt_w26 rfl d_Sp_become_1 ?_
  refine lv_aload_n hx hb d_Sp_become_4 rfl (lv_at hl 1 rfl) ?_
  refine kq_call (va_runS (As := [.ref (sp + 1), .ref ax]) (rest := []) ⟨hx, hb, hml, hown, hts⟩ (c_Wo_copy l (kr_c E) H (sp + 1) ax (v (sp + 1)) (v ax) (kr_row hW hS.2.2.1)) (va_cwS 2 hts (kt_inS kt_w222 kt_w285 kt_w221 kt_w6) rfl rfl rfl (by decide +kernel) ⟨Nat.le_of_ble_eq_true rfl, Nat.le_of_ble_eq_true rfl⟩) (kq_preS (kq_st_A.both kq_st_r) (⟨hT, hsx⟩)) rfl rfl hl.1 rfl (lv_room (Nat.le_of_ble_eq_true rfl)) d_Sp_become_5 ⟨Nat.zero_le _, Nat.zero_le _⟩) (fun u1 H1 L1 hq1 hL1 => ?_)
  obtain ⟨rfl, rfl⟩ := hq1
  refine W.eq (g2 := F0 m 8 ls []) rfl ?_
  have hW1 := kr_put hE hW hS.2.2.1 hlx
  have hO1 := kr_obj hW1 hS.1 hS.2.1
  have hsy := kr_src hE hW1 hB hay
  have hly := kr_lt hE hW1 hay
  rw [kq_up_ne hne] at hsy hly
  refine lv_aload_n hx hb d_Sp_become_8 rfl (lv_at hl 0 rfl) ?_
  refine kq_get hx hb hts kt_F_Sp hown hK hO1 rfl 1 (by decide) kt_w29 rfl d_Sp_become_9 ?_
  refine lv_aload_n hx hb d_Sp_become_12 rfl (lv_at hl 2 rfl) ?_
  refine kq_call (va_runS (As := [.ref (sp + 2), .ref ay]) (rest := []) ⟨hx, hb, hml, hown, hts⟩ (c_Wo_copy l (kr_c E) _ (sp + 2) ay _ (v ay) (kr_row hW1 hS.2.2.2)) (va_cwS 2 hts (kt_inS kt_w222 kt_w285 kt_w221 kt_w6) rfl rfl rfl (by decide +kernel) ⟨Nat.le_of_ble_eq_true rfl, Nat.le_of_ble_eq_true rfl⟩) (kq_preS (kq_st_A.both kq_st_r) (⟨hT, hsy⟩)) rfl rfl hl.1 rfl (lv_room (Nat.le_of_ble_eq_true rfl)) d_Sp_become_13 ⟨Nat.zero_le _, Nat.zero_le _⟩) (fun u2 H2 L2 hq2 hL2 => ?_)
  obtain ⟨rfl, rfl⟩ := hq2
  refine W.eq (g2 := F0 m 16 ls []) rfl ?_
  have hW2 := kr_put hE hW1 hS.2.2.2 hly
  have hO2 := kr_obj hW2 hS.1 hS.2.1
  refine lv_aload_n hx hb d_Sp_become_16 rfl (lv_at hl 0 rfl) ?_
  refine lv_iconst (v := nI 0) hx hb d_Sp_become_17 (by decide) ?_
  refine kq_put hx hb hts kt_F_Sp t_Sp t_Sp_ok n_Sp hown hK hO2 rfl 2 (by decide) kt_w32 rfl (ty := .boolean) (by decide +kernel) rfl rfl (Nat.le_of_ble_eq_true rfl) d_Sp_become_18 (fun H3 L3 hP3 hz3 ho3 hL3 => ?_)
  have hP3 : va_P (kr_D E) kr_cl [(sp, .inr (2, [.ref (sp + 1), .ref (sp + 2), .int (kq_z false)]))] H3 := hP3
  exact W.vret hx hb hret (fun t ht _ => ⟨_, rfl, rfl, _, hW2, by rw [ht]; exact hz3, fun q hq => by rw [ht]; exact ho3 q hq, by rw [ht]; exact hP3⟩) (t_lL (free := fun q => q = sp ∨ q = sp + 1 ∨ q = sp + 2) (t_lL (free := fun q => q = sp ∨ q = sp + 1 ∨ q = sp + 2) (fun q z => Or.inr (Or.inl (hL1 q z))) (fun q z => Or.inr (Or.inr (hL2 q z)))) (fun q z => Or.inl (hL3 q z))) d_Sp_become_21
end
section
/-! KeyCurve$Curve: findByX, finish (own rows). -/
theorem kr_Wb_same {E : kr_E} {sp : Nat} {b : Bool} {w : Nat → Nat} {H : Heap} (hW : kr_W E w H) (hS : kr_Sp E sp b) : kr_Wb E sp b w H := ⟨H, hW, rfl, fun _ _ => rfl, kr_obj hW hS.1 hS.2.1⟩
/-- what lift finds: x is below FIELD and what is under the root has one -/
def kc_has (x : Nat) : Prop := x < kP ∧ kc_root (kc_sq x) * kc_root (kc_sq x) % kP = kc_sq x % kP
theorem kc_has_iff (x : Nat) : kc_has x ↔ x < kP ∧ kc_root (kc_sq x) * kc_root (kc_sq x) % kP = kc_sq x % kP := Iff.rfl
def kc_hasb (x : Nat) : Bool := decide (x < kP ∧ kc_root (kc_sq x) * kc_root (kc_sq x) % kP = kc_sq x % kP)
def kc_y (x : Nat) (d : Bool) : Nat := if d = true then kp_dif kP kP (kc_even (kc_root (kc_sq x))) else kc_even (kc_root (kc_sq x))
theorem d_Cu_findByX_0 : decode b_Cu_findByX 0 = .ok (.aload_n 2, 1) := by decide +kernel
theorem d_Cu_findByX_1 : decode b_Cu_findByX 1 = .ok (.getstatic 79, 3) := by decide +kernel
theorem d_Cu_findByX_4 : decode b_Cu_findByX 4 = .ok (.invokestatic 85, 3) := by decide +kernel
theorem d_Cu_findByX_7 : decode b_Cu_findByX 7 = .ok (.ifCond .ne 5, 3) := by decide +kernel
theorem d_Cu_findByX_10 : decode b_Cu_findByX 10 = .ok (.iconst 0, 1) := by decide +kernel
theorem d_Cu_findByX_11 : decode b_Cu_findByX 11 = .ok (.ireturn, 1) := by decide +kernel
theorem d_Cu_findByX_12 : decode b_Cu_findByX 12 = .ok (.aload_n 0, 1) := by decide +kernel
theorem d_Cu_findByX_13 : decode b_Cu_findByX 13 = .ok (.aload_n 0, 1) := by decide +kernel
theorem d_Cu_findByX_14 : decode b_Cu_findByX 14 = .ok (.getfield 30, 3) := by decide +kernel
theorem d_Cu_findByX_17 : decode b_Cu_findByX 17 = .ok (.aload_n 2, 1) := by decide +kernel
theorem d_Cu_findByX_18 : decode b_Cu_findByX 18 = .ok (.invokevirtual 88, 3) := by decide +kernel
theorem d_Cu_findByX_21 : decode b_Cu_findByX 21 = .ok (.aload_n 0, 1) := by decide +kernel
theorem d_Cu_findByX_22 : decode b_Cu_findByX 22 = .ok (.aload_n 0, 1) := by decide +kernel
theorem d_Cu_findByX_23 : decode b_Cu_findByX 23 = .ok (.getfield 24, 3) := by decide +kernel
theorem d_Cu_findByX_26 : decode b_Cu_findByX 26 = .ok (.aload_n 0, 1) := by decide +kernel
theorem d_Cu_findByX_27 : decode b_Cu_findByX 27 = .ok (.getfield 30, 3) := by decide +kernel
theorem d_Cu_findByX_30 : decode b_Cu_findByX 30 = .ok (.invokevirtual 91, 3) := by decide +kernel
theorem d_Cu_findByX_33 : decode b_Cu_findByX 33 = .ok (.ifCond .ne 5, 3) := by decide +kernel
theorem d_Cu_findByX_36 : decode b_Cu_findByX 36 = .ok (.iconst 0, 1) := by decide +kernel
theorem d_Cu_findByX_37 : decode b_Cu_findByX 37 = .ok (.ireturn, 1) := by decide +kernel
theorem d_Cu_findByX_38 : decode b_Cu_findByX 38 = .ok (.iload_n 3, 1) := by decide +kernel
theorem d_Cu_findByX_39 : decode b_Cu_findByX 39 = .ok (.ifCond .eq 21, 3) := by decide +kernel
theorem d_Cu_findByX_42 : decode b_Cu_findByX 42 = .ok (.aload_n 0, 1) := by decide +kernel
theorem d_Cu_findByX_43 : decode b_Cu_findByX 43 = .ok (.getfield 45, 3) := by decide +kernel
theorem d_Cu_findByX_46 : decode b_Cu_findByX 46 = .ok (.aload_n 0, 1) := by decide +kernel
theorem d_Cu_findByX_47 : decode b_Cu_findByX 47 = .ok (.getfield 24, 3) := by decide +kernel
theorem d_Cu_findByX_50 : decode b_Cu_findByX 50 = .ok (.getstatic 79, 3) := by decide +kernel
theorem d_Cu_findByX_53 : decode b_Cu_findByX 53 = .ok (.aload_n 0, 1) := by decide +kernel
theorem d_Cu_findByX_54 : decode b_Cu_findByX 54 = .ok (.getfield 24, 3) := by decide +kernel
theorem d_Cu_findByX_57 : decode b_Cu_findByX 57 = .ok (.invokevirtual 82, 3) := by decide +kernel
theorem d_Cu_findByX_60 : decode b_Cu_findByX 60 = .ok (.aload_n 1, 1) := by decide +kernel
theorem d_Cu_findByX_61 : decode b_Cu_findByX 61 = .ok (.aload_n 2, 1) := by decide +kernel
theorem d_Cu_findByX_62 : decode b_Cu_findByX 62 = .ok (.aload_n 0, 1) := by decide +kernel
theorem d_Cu_findByX_63 : decode b_Cu_findByX 63 = .ok (.getfield 24, 3) := by decide +kernel
theorem d_Cu_findByX_66 : decode b_Cu_findByX 66 = .ok (.invokevirtual 94, 3) := by decide +kernel
theorem d_Cu_findByX_69 : decode b_Cu_findByX 69 = .ok (.iconst 1, 1) := by decide +kernel
theorem d_Cu_findByX_70 : decode b_Cu_findByX 70 = .ok (.ireturn, 1) := by decide +kernel
set_option maxHeartbeats 4000000 in
set_option maxRecDepth 100000 in
theorem c_Cu_findByX (l : Launch) (E : kr_E) (A : Nat → Nat) (h pa ga gw G hc sp : Nat) (v : Nat → Nat) (H : Heap) (hE : kr_ok E) (hA : kr_A E A) (hP : kr_P E h pa ga gw kP G) (hV : kr_V E hc h) (hW : kr_W E v H) (b d : Bool) (hS : kr_Sp E sp b) (hsp : sp + 2 < h) (ax : Nat) (hax : kr_out E ax) (hxh : ax < h) (hxs : ax ≠ sp + 1 ∧ ax ≠ sp + 2) : Met l y_Cu_findByX w_Cu_findByX ({ frames := 5, cells := 0, slots := 0, locals := 121 }) (kq_P [.ref hc, .ref sp, .ref ax, .int (kq_z d)] H (kr_C E A)) (kq_Q (fun o1 H1 => o1 = some (.int (kq_z (kc_hasb (v ax)))) ∧ ∃ w : Nat → Nat, kr_Wb E sp (if kc_hasb (v ax) = true then false else b) w H1 ∧ w (sp + 1) = (if kc_hasb (v ax) = true then v ax else v (sp + 1)) ∧ w (sp + 2) = (if kc_hasb (v ax) = true then kc_y (v ax) d else v (sp + 2)) ∧ ∀ q, q ≠ sp + 1 → q ≠ sp + 2 → ¬ kr_fr h hc q → w q = v q)) 0 0 (fun q => q = sp ∨ q = sp + 1 ∨ q = sp + 2 ∨ kr_fr h hc q) := by
  refine Met.ofW (cc := b_Cu_findByX) (maxL := 4) (ret := (some .boolean)) (by decide) rfl ?_
  intro p e s m args below meth c s₁ B0 hml hv
  obtain ⟨rfl, hH, hC⟩ := hv
  have hx := B0.exec
  have hb := B0.bytes
  have hret := B0.returns
  have hts := atoms_spec (ws := w_Cu_findByX) B0.pre
  have hown : s.vm.findClass R_Cu = some m.cls := findClass_of_methodNamed B0.named
  have hlocks := B0.notSynchronized
  rw [hH]
  have hl := lv_entry ([.ref hc, .ref sp, .ref ax, .int (kq_z d)]) (n := 4) (Nat.le_of_ble_eq_true rfl)
  rw [lg_entry_eq]
  generalize (lg_sl ([.ref hc, .ref sp, .ref ax, .int (kq_z d)]) ++ List.replicate (4 - (lg_sl ([.ref hc, .ref sp, .ref ax, .int (kq_z d)])).length) Slot.unset).toArray = ls at hl ⊢
  have hl : lv_has ls 4 [(0, .ref hc), (1, .ref sp), (2, .ref ax), (3, .int (kq_z d))] := hl
  have hB := hC.1
  have hT := kr_T hE hB
  have hK := hB.1
  have hhc := hV.2.2.2
  have h5 := hV.2.2.1 5 (by decide) (by decide)
  have h7 := hV.2.2.1 7 (by decide) (by decide)
  have hlc0 : ∀ q ∈ ([] : List Loc), q.base = sp ∨ q.base = sp + 1 ∨ q.base = sp + 2 ∨ kr_fr h hc q.base := fun q h => by cases h
  have hO := kr_obj hW hV.1 hV.2.1
  have hsx := kr_src hE hW hB (Or.inl hax)
  have hlx := kr_lt hE hW (Or.inl hax)
  have hsf := kr_src hE hW hB (Or.inr hA.1.1)
  have hlf := kr_lt hE hW (Or.inr hA.1.1)
  rw [kr_cst hW hA.1] at hsf hlf
  refine lv_aload_n hx hb d_Cu_findByX_0 rfl (lv_at hl 2 rfl) ?_
  refine kq_getsN hx hb (kr_zat hW hC.2.2.1) hown hC.2.1.2.2.1 d_Cu_findByX_1 ?_
  refine kq_call (va_runS (As := [.ref ax, .ref (A 0)]) (rest := []) ⟨hx, hb, hml, hown, hts⟩ (c_Wo_isBelow l H ax (A 0) (v ax) kP hlx hlf) (va_cwS 2 hts (kt_inS kt_w187 kt_w298 kt_w186 kt_w6) rfl rfl rfl (by decide +kernel) ⟨Nat.le_of_ble_eq_true rfl, Nat.le_of_ble_eq_true rfl⟩) (kq_preS (kq_st_r.both kq_st_r) (⟨hsx, hsf⟩)) rfl rfl hl.1 rfl (lv_room (Nat.le_of_ble_eq_true rfl)) d_Cu_findByX_4 ⟨Nat.zero_le _, Nat.zero_le _⟩) (fun v9 H9 L9 hq9 hL9 => ?_)
  obtain ⟨rfl, e9⟩ := hq9
  rw [e9]
  clear e9
  refine W.eq (g2 := F0 m 7 ls [.int (kq_z (decide (v ax < kP)))]) rfl ?_
  have hlc1 := t_lL (free := (fun q => q = sp ∨ q = sp + 1 ∨ q = sp + 2 ∨ kr_fr h hc q)) hlc0 (fun q z => (hL9 q z).elim)
  refine lv_if_ne hx hb d_Cu_findByX_7 rfl (fun hc0 => ?_) (fun hc0 => ?_)
  · have hx0 : v ax < kP := kq_z_ne.mp hc0
    refine lv_aload_n hx hb d_Cu_findByX_12 rfl (lv_at hl 0 rfl) ?_
    refine lv_aload_n hx hb d_Cu_findByX_13 rfl (lv_at hl 0 rfl) ?_
    refine kq_get hx hb hts kt_F_Cu hown hK hO rfl 7 (by decide) kt_w106 rfl d_Cu_findByX_14 ?_
    refine lv_aload_n hx hb d_Cu_findByX_17 rfl (lv_at hl 2 rfl) ?_
    refine kq_call (va_runV (As := [.ref (hc + 7), .ref ax]) (rest := []) ⟨hx, hb, hml, hown, hts⟩ (c_Cu_putSquareOfY l E A h pa ga gw G hc v H hE hA hP hV hW ax hax hxh) (cwV 2 hts (kt_inV kt_w302 kt_w299 kt_w301 kt_s6 kt_w4) rfl rfl rfl (by decide +kernel) ⟨Nat.le_of_ble_eq_true rfl, Nat.le_of_ble_eq_true rfl⟩) (kq_p2V (kr_C_s2 E A) (hC) (kq_recv hC.1.1 hO rfl)) rfl rfl hl.1 rfl (lv_room (Nat.le_of_ble_eq_true rfl)) d_Cu_findByX_18 ⟨Nat.zero_le _, Nat.zero_le _⟩) (fun u2 H2 L2 hq2 hL2 => ?_)
    obtain ⟨rfl, w2, hW2, e2, k2⟩ := hq2
    refine W.eq (g2 := F0 m 21 ls []) rfl ?_
    have hlc2 := t_lL (free := (fun q => q = sp ∨ q = sp + 1 ∨ q = sp + 2 ∨ kr_fr h hc q)) hlc1 (fun q z => Or.inr (Or.inr (Or.inr (hL2 q z))))
    have hO2 := kr_obj hW2 hV.1 hV.2.1
    refine lv_aload_n hx hb d_Cu_findByX_21 rfl (lv_at hl 0 rfl) ?_
    refine lv_aload_n hx hb d_Cu_findByX_22 rfl (lv_at hl 0 rfl) ?_
    refine kq_get hx hb hts kt_F_Cu hown hK hO2 rfl 5 (by decide) kt_w104 rfl d_Cu_findByX_23 ?_
    refine lv_aload_n hx hb d_Cu_findByX_26 rfl (lv_at hl 0 rfl) ?_
    refine kq_get hx hb hts kt_F_Cu hown hK hO2 rfl 7 (by decide) kt_w106 rfl d_Cu_findByX_27 ?_
    refine kq_call (va_runV (As := [.ref (hc + 5), .ref (hc + 7)]) (rest := []) ⟨hx, hb, hml, hown, hts⟩ (c_Cu_evenRoot l E A h pa ga gw G hc w2 H2 hE hA hP hV hW2 (hc + 5) (hc + 7) h5 h7 (Or.inr rfl) (Or.inr rfl)) (cwV 2 hts (kt_inV kt_w254 kt_w314 kt_w252 kt_w253 kt_w4) rfl rfl rfl (by decide +kernel) ⟨Nat.le_of_ble_eq_true rfl, Nat.le_of_ble_eq_true rfl⟩) (kq_p2V (kr_C_s2 E A) (hC) (kq_recv hC.1.1 hO2 rfl)) rfl rfl hl.1 rfl (lv_room (Nat.le_of_ble_eq_true rfl)) d_Cu_findByX_30 ⟨Nat.zero_le _, Nat.zero_le _⟩) (fun u3 H3 L3 hq3 hL3 => ?_)
    obtain ⟨rfl, w3, hW3, e3, k3⟩ := hq3
    refine W.eq (g2 := F0 m 33 ls [.int (kq_z (decide (kc_root (w2 (hc + 7)) * kc_root (w2 (hc + 7)) % kP = w2 (hc + 7) % kP)))]) rfl ?_
    have hlc3 := t_lL (free := (fun q => q = sp ∨ q = sp + 1 ∨ q = sp + 2 ∨ kr_fr h hc q)) hlc2 (fun q z => Or.inr (Or.inr (Or.inr ((hL3 q z).elim (fun z => by rw [z]; unfold kr_fr; omega) id))))
    have k3' : ∀ q, ¬ kr_fr h hc q → w3 q = v q := fun q hq => by
      have hq1 := hq
      unfold kr_fr at hq1
      rw [k3 q (by omega) hq]
      exact k2 q hq
    rw [e2] at e3
    refine lv_if_ne hx hb d_Cu_findByX_33 rfl (fun hc1 => ?_) (fun hc1 => ?_)
    · have hrt : kc_root (kc_sq (v ax)) * kc_root (kc_sq (v ax)) % kP = kc_sq (v ax) % kP := by
        have q := kq_z_ne.mp hc1
        rw [e2] at q
        exact q
      have hb1 : kc_hasb (v ax) = true := decide_eq_true ⟨hx0, hrt⟩
      rw [if_pos hrt] at e3
      have hO3 := kr_obj hW3 hV.1 hV.2.1
      refine lv_iload_n hx hb d_Cu_findByX_38 rfl (lv_at hl 3 rfl) ?_
      refine lv_if_eq hx hb d_Cu_findByX_39 rfl (fun hd0 => ?_) (fun hd0 => ?_)
      · have hd := kq_z_b0 hd0
        have ey : w3 (hc + 5) = kc_y (v ax) d := by
          rw [e3]
          unfold kc_y
          rw [hd, if_neg (by decide)]
        have hOz := kr_obj hW3 hV.1 hV.2.1
        have hOs := kr_obj hW3 hS.1 hS.2.1
        refine lv_aload_n hx hb d_Cu_findByX_60 rfl (lv_at hl 1 rfl) ?_
        refine lv_aload_n hx hb d_Cu_findByX_61 rfl (lv_at hl 2 rfl) ?_
        refine lv_aload_n hx hb d_Cu_findByX_62 rfl (lv_at hl 0 rfl) ?_
        refine kq_get hx hb hts kt_F_Cu hown hK hOz rfl 5 (by decide) kt_w104 rfl d_Cu_findByX_63 ?_
        refine kq_call (va_runV (As := [.ref ax, .ref (hc + 5)]) (rest := []) ⟨hx, hb, hml, hown, hts⟩ (c_Sp_become l E w3 H3 hE hW3 sp b hS ax (hc + 5) (Or.inl hax) (Or.inl h5) (by omega)) (cwV 2 hts (kt_inV kt_w284 kt_w315 kt_w282 kt_w283 kt_w2) rfl rfl rfl (by decide +kernel) ⟨Nat.le_of_ble_eq_true rfl, Nat.le_of_ble_eq_true rfl⟩) (kq_preV (kr_st E) (hB) (kq_recv hC.1.1 hOs rfl)) rfl rfl hl.1 rfl (lv_room (Nat.le_of_ble_eq_true rfl)) d_Cu_findByX_66 ⟨Nat.zero_le _, Nat.zero_le _⟩) (fun u8 H8 L8 hq8 hL8 => ?_)
        obtain ⟨rfl, hX8⟩ := hq8
        refine W.eq (g2 := F0 m 69 ls []) rfl ?_
        refine lv_iconst (v := nI 1) hx hb d_Cu_findByX_69 (by decide) ?_
        refine W.zret hx hb hret rfl (fun t ht _ => ⟨_, rfl, by rw [hb1]; rfl, _, by rw [ht, if_pos hb1]; exact hX8, ?_, ?_, fun q q1 q2 q3 => ?_⟩) (t_lL (free := (fun q => q = sp ∨ q = sp + 1 ∨ q = sp + 2 ∨ kr_fr h hc q)) hlc3 (fun q z => by rcases hL8 q z with z | z | z <;> simp [z])) d_Cu_findByX_70
        · rw [if_pos hb1, kq_up_ne (by omega), kq_up_at]
          exact k3' ax (by unfold kr_fr; omega)
        · rw [if_pos hb1, kq_up_at, ey]
        · rw [kq_up_ne q2, kq_up_ne q1]
          exact k3' q q3
      · have hd := kq_z_b1 hd0
        have hOp3 := kr_obj hW3 hP.1 hP.2.1
        refine lv_aload_n hx hb d_Cu_findByX_42 rfl (lv_at hl 0 rfl) ?_
        refine kq_get hx hb hts kt_F_Cu hown hK hO3 rfl 0 (by decide) kt_w99 rfl d_Cu_findByX_43 ?_
        refine lv_aload_n hx hb d_Cu_findByX_46 rfl (lv_at hl 0 rfl) ?_
        refine kq_get hx hb hts kt_F_Cu hown hK hO3 rfl 5 (by decide) kt_w104 rfl d_Cu_findByX_47 ?_
        refine kq_getsN hx hb (kr_zat hW3 hC.2.2.1) hown hC.2.1.2.2.1 d_Cu_findByX_50 ?_
        refine lv_aload_n hx hb d_Cu_findByX_53 rfl (lv_at hl 0 rfl) ?_
        refine kq_get hx hb hts kt_F_Cu hown hK hO3 rfl 5 (by decide) kt_w104 rfl d_Cu_findByX_54 ?_
        refine kq_call (va_runV (As := [.ref (hc + 5), .ref (A 0), .ref (hc + 5)]) (rest := []) ⟨hx, hb, hml, hown, hts⟩ (c_Pr_difference l E h pa ga gw kP G w3 H3 hE hP hW3 (hc + 5) (A 0) (hc + 5) h5 (Or.inr hA.1.1) (Or.inl h5)) (cwV 3 hts (kt_inV kt_w198 kt_w268 kt_w196 kt_w197 kt_w3) rfl rfl rfl (by decide +kernel) ⟨Nat.le_of_ble_eq_true rfl, Nat.le_of_ble_eq_true rfl⟩) (kq_preV (kr_st E) (hB) (kq_recv hB.1 hOp3 rfl)) rfl rfl hl.1 rfl (lv_room (Nat.le_of_ble_eq_true rfl)) d_Cu_findByX_57 ⟨Nat.zero_le _, Nat.zero_le _⟩) (fun u4 H4 L4 hq4 hL4 => ?_)
        obtain ⟨rfl, hX4⟩ := hq4
        refine W.eq (g2 := F0 m 60 ls []) rfl ?_
        have hlc4 := t_lL (free := (fun q => q = sp ∨ q = sp + 1 ∨ q = sp + 2 ∨ kr_fr h hc q)) hlc3 (fun q z => Or.inr (Or.inr (Or.inr (by rw [hL4 q z]; unfold kr_fr; omega))))
        obtain ⟨w4, f4, o4, hW4⟩ : ∃ w : Nat → Nat, w (hc + 5) = kp_dif kP (w3 (A 0)) (w3 (hc + 5)) ∧ (∀ q, q ≠ hc + 5 → w q = w3 q) ∧ kr_W E w H4 := ⟨_, kq_up_at, fun q hq => kq_up_ne hq, hX4⟩
        have ey : w4 (hc + 5) = kc_y (v ax) d := by
          rw [f4, e3, kr_cst hW3 hA.1]
          unfold kc_y
          rw [hd, if_pos rfl]
        have k4 : ∀ q, ¬ kr_fr h hc q → w4 q = v q := fun q hq => by
          have hq1 := hq
          unfold kr_fr at hq1
          rw [o4 q (by omega)]
          exact k3' q hq
        have hOz := kr_obj hW4 hV.1 hV.2.1
        have hOs := kr_obj hW4 hS.1 hS.2.1
        refine lv_aload_n hx hb d_Cu_findByX_60 rfl (lv_at hl 1 rfl) ?_
        refine lv_aload_n hx hb d_Cu_findByX_61 rfl (lv_at hl 2 rfl) ?_
        refine lv_aload_n hx hb d_Cu_findByX_62 rfl (lv_at hl 0 rfl) ?_
        refine kq_get hx hb hts kt_F_Cu hown hK hOz rfl 5 (by decide) kt_w104 rfl d_Cu_findByX_63 ?_
        refine kq_call (va_runV (As := [.ref ax, .ref (hc + 5)]) (rest := []) ⟨hx, hb, hml, hown, hts⟩ (c_Sp_become l E w4 H4 hE hW4 sp b hS ax (hc + 5) (Or.inl hax) (Or.inl h5) (by omega)) (cwV 2 hts (kt_inV kt_w284 kt_w315 kt_w282 kt_w283 kt_w2) rfl rfl rfl (by decide +kernel) ⟨Nat.le_of_ble_eq_true rfl, Nat.le_of_ble_eq_true rfl⟩) (kq_preV (kr_st E) (hB) (kq_recv hC.1.1 hOs rfl)) rfl rfl hl.1 rfl (lv_room (Nat.le_of_ble_eq_true rfl)) d_Cu_findByX_66 ⟨Nat.zero_le _, Nat.zero_le _⟩) (fun u8 H8 L8 hq8 hL8 => ?_)
        obtain ⟨rfl, hX8⟩ := hq8
        refine W.eq (g2 := F0 m 69 ls []) rfl ?_
        refine lv_iconst (v := nI 1) hx hb d_Cu_findByX_69 (by decide) ?_
        refine W.zret hx hb hret rfl (fun t ht _ => ⟨_, rfl, by rw [hb1]; rfl, _, by rw [ht, if_pos hb1]; exact hX8, ?_, ?_, fun q q1 q2 q3 => ?_⟩) (t_lL (free := (fun q => q = sp ∨ q = sp + 1 ∨ q = sp + 2 ∨ kr_fr h hc q)) hlc4 (fun q z => by rcases hL8 q z with z | z | z <;> simp [z])) d_Cu_findByX_70
        · rw [if_pos hb1, kq_up_ne (by omega), kq_up_at]
          exact k4 ax (by unfold kr_fr; omega)
        · rw [if_pos hb1, kq_up_at, ey]
        · rw [kq_up_ne q2, kq_up_ne q1]
          exact k4 q q3
    · have hrt : ¬ kc_root (kc_sq (v ax)) * kc_root (kc_sq (v ax)) % kP = kc_sq (v ax) % kP := by
        have q := kq_z_eq.mp hc1
        rw [e2] at q
        exact q
      have hb1 : ¬ kc_hasb (v ax) = true := fun q => hrt (of_decide_eq_true q).2
      have hb2 : kc_hasb (v ax) = false := by cases hq : kc_hasb (v ax) <;> simp_all
      refine lv_iconst (v := nI 0) hx hb d_Cu_findByX_36 (by decide) ?_
      exact W.zret hx hb hret rfl (fun t ht _ => ⟨_, rfl, by rw [hb2]; rfl, w3, by rw [ht, if_neg hb1]; exact kr_Wb_same hW3 hS, by rw [if_neg hb1]; exact k3' _ (by unfold kr_fr; omega), by rw [if_neg hb1]; exact k3' _ (by unfold kr_fr; omega), fun q _ _ q3 => k3' q q3⟩) hlc3 d_Cu_findByX_37
  · have hn := kq_z_eq.mp hc0
    have hb1 : ¬ kc_hasb (v ax) = true := fun q => hn (of_decide_eq_true q).1
    have hb2 : kc_hasb (v ax) = false := by cases hq : kc_hasb (v ax) <;> simp_all
    refine lv_iconst (v := nI 0) hx hb d_Cu_findByX_10 (by decide) ?_
    exact W.zret hx hb hret rfl (fun t ht _ => ⟨_, rfl, by rw [hb2]; rfl, v, by rw [ht, if_neg hb1]; exact kr_Wb_same hW hS, by rw [if_neg hb1], by rw [if_neg hb1], fun _ _ _ _ => rfl⟩) hlc1 d_Cu_findByX_11
theorem d_Cu_finish_0 : decode b_Cu_finish 0 = .ok (.aload_n 0, 1) := by decide +kernel
theorem d_Cu_finish_1 : decode b_Cu_finish 1 = .ok (.getfield 45, 3) := by decide +kernel
theorem d_Cu_finish_4 : decode b_Cu_finish 4 = .ok (.aload_n 0, 1) := by decide +kernel
theorem d_Cu_finish_5 : decode b_Cu_finish 5 = .ok (.getfield 21, 3) := by decide +kernel
theorem d_Cu_finish_8 : decode b_Cu_finish 8 = .ok (.aload_n 0, 1) := by decide +kernel
theorem d_Cu_finish_9 : decode b_Cu_finish 9 = .ok (.getfield 18, 3) := by decide +kernel
theorem d_Cu_finish_12 : decode b_Cu_finish 12 = .ok (.invokevirtual 137, 3) := by decide +kernel
theorem d_Cu_finish_15 : decode b_Cu_finish 15 = .ok (.ifCond .ne 9, 3) := by decide +kernel
theorem d_Cu_finish_18 : decode b_Cu_finish 18 = .ok (.aload_n 1, 1) := by decide +kernel
theorem d_Cu_finish_19 : decode b_Cu_finish 19 = .ok (.iconst 1, 1) := by decide +kernel
theorem d_Cu_finish_20 : decode b_Cu_finish 20 = .ok (.putfield 122, 3) := by decide +kernel
theorem d_Cu_finish_23 : decode b_Cu_finish 23 = .ok (.return_, 1) := by decide +kernel
theorem d_Cu_finish_24 : decode b_Cu_finish 24 = .ok (.aload_n 0, 1) := by decide +kernel
theorem d_Cu_finish_25 : decode b_Cu_finish 25 = .ok (.getfield 45, 3) := by decide +kernel
theorem d_Cu_finish_28 : decode b_Cu_finish 28 = .ok (.aload_n 0, 1) := by decide +kernel
theorem d_Cu_finish_29 : decode b_Cu_finish 29 = .ok (.getfield 27, 3) := by decide +kernel
theorem d_Cu_finish_32 : decode b_Cu_finish 32 = .ok (.aload_n 0, 1) := by decide +kernel
theorem d_Cu_finish_33 : decode b_Cu_finish 33 = .ok (.getfield 21, 3) := by decide +kernel
theorem d_Cu_finish_36 : decode b_Cu_finish 36 = .ok (.aload_n 0, 1) := by decide +kernel
theorem d_Cu_finish_37 : decode b_Cu_finish 37 = .ok (.getfield 21, 3) := by decide +kernel
theorem d_Cu_finish_40 : decode b_Cu_finish 40 = .ok (.invokevirtual 68, 3) := by decide +kernel
theorem d_Cu_finish_43 : decode b_Cu_finish 43 = .ok (.aload_n 0, 1) := by decide +kernel
theorem d_Cu_finish_44 : decode b_Cu_finish 44 = .ok (.getfield 45, 3) := by decide +kernel
theorem d_Cu_finish_47 : decode b_Cu_finish 47 = .ok (.aload_n 0, 1) := by decide +kernel
theorem d_Cu_finish_48 : decode b_Cu_finish 48 = .ok (.getfield 30, 3) := by decide +kernel
theorem d_Cu_finish_51 : decode b_Cu_finish 51 = .ok (.aload_n 0, 1) := by decide +kernel
theorem d_Cu_finish_52 : decode b_Cu_finish 52 = .ok (.getfield 27, 3) := by decide +kernel
theorem d_Cu_finish_55 : decode b_Cu_finish 55 = .ok (.aload_n 0, 1) := by decide +kernel
theorem d_Cu_finish_56 : decode b_Cu_finish 56 = .ok (.getfield 21, 3) := by decide +kernel
theorem d_Cu_finish_59 : decode b_Cu_finish 59 = .ok (.invokevirtual 68, 3) := by decide +kernel
theorem d_Cu_finish_62 : decode b_Cu_finish 62 = .ok (.aload_n 0, 1) := by decide +kernel
theorem d_Cu_finish_63 : decode b_Cu_finish 63 = .ok (.getfield 45, 3) := by decide +kernel
theorem d_Cu_finish_66 : decode b_Cu_finish 66 = .ok (.aload_n 0, 1) := by decide +kernel
theorem d_Cu_finish_67 : decode b_Cu_finish 67 = .ok (.getfield 9, 3) := by decide +kernel
theorem d_Cu_finish_70 : decode b_Cu_finish 70 = .ok (.aload_n 0, 1) := by decide +kernel
theorem d_Cu_finish_71 : decode b_Cu_finish 71 = .ok (.getfield 9, 3) := by decide +kernel
theorem d_Cu_finish_74 : decode b_Cu_finish 74 = .ok (.aload_n 0, 1) := by decide +kernel
theorem d_Cu_finish_75 : decode b_Cu_finish 75 = .ok (.getfield 27, 3) := by decide +kernel
theorem d_Cu_finish_78 : decode b_Cu_finish 78 = .ok (.invokevirtual 68, 3) := by decide +kernel
theorem d_Cu_finish_81 : decode b_Cu_finish 81 = .ok (.aload_n 0, 1) := by decide +kernel
theorem d_Cu_finish_82 : decode b_Cu_finish 82 = .ok (.getfield 45, 3) := by decide +kernel
theorem d_Cu_finish_85 : decode b_Cu_finish 85 = .ok (.aload_n 0, 1) := by decide +kernel
theorem d_Cu_finish_86 : decode b_Cu_finish 86 = .ok (.getfield 15, 3) := by decide +kernel
theorem d_Cu_finish_89 : decode b_Cu_finish 89 = .ok (.aload_n 0, 1) := by decide +kernel
theorem d_Cu_finish_90 : decode b_Cu_finish 90 = .ok (.getfield 15, 3) := by decide +kernel
theorem d_Cu_finish_93 : decode b_Cu_finish 93 = .ok (.aload_n 0, 1) := by decide +kernel
theorem d_Cu_finish_94 : decode b_Cu_finish 94 = .ok (.getfield 30, 3) := by decide +kernel
theorem d_Cu_finish_97 : decode b_Cu_finish 97 = .ok (.invokevirtual 68, 3) := by decide +kernel
theorem d_Cu_finish_100 : decode b_Cu_finish 100 = .ok (.aload_n 1, 1) := by decide +kernel
theorem d_Cu_finish_101 : decode b_Cu_finish 101 = .ok (.aload_n 0, 1) := by decide +kernel
theorem d_Cu_finish_102 : decode b_Cu_finish 102 = .ok (.getfield 9, 3) := by decide +kernel
theorem d_Cu_finish_105 : decode b_Cu_finish 105 = .ok (.aload_n 0, 1) := by decide +kernel
theorem d_Cu_finish_106 : decode b_Cu_finish 106 = .ok (.getfield 15, 3) := by decide +kernel
theorem d_Cu_finish_109 : decode b_Cu_finish 109 = .ok (.invokevirtual 94, 3) := by decide +kernel
theorem d_Cu_finish_112 : decode b_Cu_finish 112 = .ok (.return_, 1) := by decide +kernel
set_option maxHeartbeats 4000000 in
set_option maxRecDepth 100000 in
theorem c_Cu_finish (l : Launch) (E : kr_E) (A : Nat → Nat) (h pa ga gw G hc sp : Nat) (v : Nat → Nat) (H : Heap) (hE : kr_ok E) (hA : kr_A E A) (hP : kr_P E h pa ga gw kP G) (hV : kr_V E hc h) (hW : kr_W E v H) (b : Bool) (hS : kr_Sp E sp b) (hsp : sp + 2 < h) (o : Option (Nat × Nat)) (hrep : kc_rep o (v (hc + 1)) (v (hc + 2)) (v (hc + 3))) : Met l y_Cu_finish w_Cu_finish ({ frames := 5, cells := 0, slots := 0, locals := 121 }) (kq_P [.ref hc, .ref sp] H (kr_C E A)) (kq_Q (fun o1 H1 => o1 = none ∧ ∃ w : Nat → Nat, kr_Wb E sp o.isNone w H1 ∧ (∀ q0, o = some q0 → w (sp + 1) = q0.1 ∧ w (sp + 2) = q0.2) ∧ (o = none → w (sp + 1) = v (sp + 1) ∧ w (sp + 2) = v (sp + 2)) ∧ ∀ q, q ≠ sp + 1 → q ≠ sp + 2 → ¬ kr_fr h hc q → w q = v q)) 0 0 (fun q => q = sp ∨ q = sp + 1 ∨ q = sp + 2 ∨ kr_fr h hc q) := by
  refine Met.ofW (cc := b_Cu_finish) (maxL := 2) (ret := none) (by decide) rfl ?_
  intro p e s m args below meth c s₁ B0 hml hv
  obtain ⟨rfl, hH, hC⟩ := hv
  have hx := B0.exec
  have hb := B0.bytes
  have hret := B0.returns
  have hts := atoms_spec (ws := w_Cu_finish) B0.pre
  have hown : s.vm.findClass R_Cu = some m.cls := findClass_of_methodNamed B0.named
  have hlocks := B0.notSynchronized
  rw [hH]
  have hl := lv_entry ([.ref hc, .ref sp]) (n := 2) (Nat.le_of_ble_eq_true rfl)
  rw [lg_entry_eq]
  generalize (lg_sl ([.ref hc, .ref sp]) ++ List.replicate (2 - (lg_sl ([.ref hc, .ref sp])).length) Slot.unset).toArray = ls at hl ⊢
  have hl : lv_has ls 2 [(0, .ref hc), (1, .ref sp)] := hl
  have hB := hC.1
  have hT := kr_T hE hB
  have hK := hB.1
  have hhc := hV.2.2.2
  have h1 := hV.2.2.1 1 (by decide) (by decide)
  have h2 := hV.2.2.1 2 (by decide) (by decide)
  have h3 := hV.2.2.1 3 (by decide) (by decide)
  have h4 := hV.2.2.1 4 (by decide) (by decide)
  have hlc0 : ∀ q ∈ ([] : List Loc), q.base = sp ∨ q.base = sp + 1 ∨ q.base = sp + 2 ∨ kr_fr h hc q.base := fun q h => by cases h
  have hO := kr_obj hW hV.1 hV.2.1
  have hOp := kr_obj hW hP.1 hP.2.1
  have hzm : v (hc + 3) % kP = v (hc + 3) := Nat.mod_eq_of_lt hrep.1
  refine lv_aload_n hx hb d_Cu_finish_0 rfl (lv_at hl 0 rfl) ?_
  refine kq_get hx hb hts kt_F_Cu hown hK hO rfl 0 (by decide) kt_w99 rfl d_Cu_finish_1 ?_
  refine lv_aload_n hx hb d_Cu_finish_4 rfl (lv_at hl 0 rfl) ?_
  refine kq_get hx hb hts kt_F_Cu hown hK hO rfl 4 (by decide) kt_w103 rfl d_Cu_finish_5 ?_
  refine lv_aload_n hx hb d_Cu_finish_8 rfl (lv_at hl 0 rfl) ?_
  refine kq_get hx hb hts kt_F_Cu hown hK hO rfl 3 (by decide) kt_w102 rfl d_Cu_finish_9 ?_
  refine kq_call (va_runV (As := [.ref (hc + 4), .ref (hc + 3)]) (rest := []) ⟨hx, hb, hml, hown, hts⟩ (c_Pr_inverse l E A h pa ga gw kP G v H hE hA hP hW (hc + 4) (hc + 3) h4 (Or.inl h3) (by omega)) (cwV 2 hts (kt_inV kt_w233 kt_w347 kt_w231 kt_w232 kt_w3) rfl rfl rfl (by decide +kernel) ⟨Nat.le_of_ble_eq_true rfl, Nat.le_of_ble_eq_true rfl⟩) (kq_p2V (kr_C_s2 E A) (hC) (kq_recv hC.1.1 hOp rfl)) rfl rfl hl.1 rfl (lv_room (Nat.le_of_ble_eq_true rfl)) d_Cu_finish_12 ⟨Nat.zero_le _, Nat.zero_le _⟩) (fun u1 H1 L1 hq1 hL1 => ?_)
  obtain ⟨rfl, w1, hW1, f1, o1⟩ := hq1
  refine W.eq (g2 := F0 m 15 ls [.int (kq_z (decide (¬ v (hc + 3) % kP = 0)))]) rfl ?_
  rw [hzm] at f1
  have hlc1 := t_lL (free := (fun q => q = sp ∨ q = sp + 1 ∨ q = sp + 2 ∨ kr_fr h hc q)) hlc0 (fun q z => Or.inr (Or.inr (Or.inr (by rcases hL1 q z with z | z | z | z | z | z <;> (rw [z]; unfold kr_fr; omega)))))
  have k1 : ∀ q, ¬ kr_fr h hc q → w1 q = v q := fun q hq => by
    have hq1 := hq
    unfold kr_fr at hq1
    exact o1 q (by omega) (by omega) (by omega) (by omega) (by omega) (by omega)
  refine lv_if_ne hx hb d_Cu_finish_15 rfl (fun hc0 => ?_) (fun hc0 => ?_)
  · have hz : ¬ v (hc + 3) = 0 := by
      have q := kq_z_ne.mp hc0
      rw [hzm] at q
      exact q
    rw [if_neg hz] at f1
    obtain ⟨q0, rfl⟩ := kc_rep_nz hrep hz
    have x1 : w1 (hc + 1) = v (hc + 1) := o1 _ (by omega) (by omega) (by omega) (by omega) (by omega) (by omega)
    have x2 : w1 (hc + 2) = v (hc + 2) := o1 _ (by omega) (by omega) (by omega) (by omega) (by omega) (by omega)
    have hOc1 := kr_obj hW1 hV.1 hV.2.1
    have hOp1 := kr_obj hW1 hP.1 hP.2.1
    refine lv_aload_n hx hb d_Cu_finish_24 rfl (lv_at hl 0 rfl) ?_
    refine kq_get hx hb hts kt_F_Cu hown hK hOc1 rfl 0 (by decide) kt_w99 rfl d_Cu_finish_25 ?_
    refine lv_aload_n hx hb d_Cu_finish_28 rfl (lv_at hl 0 rfl) ?_
    refine kq_get hx hb hts kt_F_Cu hown hK hOc1 rfl 6 (by decide) kt_w105 rfl d_Cu_finish_29 ?_
    refine lv_aload_n hx hb d_Cu_finish_32 rfl (lv_at hl 0 rfl) ?_
    refine kq_get hx hb hts kt_F_Cu hown hK hOc1 rfl 4 (by decide) kt_w103 rfl d_Cu_finish_33 ?_
    refine lv_aload_n hx hb d_Cu_finish_36 rfl (lv_at hl 0 rfl) ?_
    refine kq_get hx hb hts kt_F_Cu hown hK hOc1 rfl 4 (by decide) kt_w103 rfl d_Cu_finish_37 ?_
    refine kq_call (va_runV (As := [.ref (hc + 6), .ref (hc + 4), .ref (hc + 4)]) (rest := []) ⟨hx, hb, hml, hown, hts⟩ (c_Pr_product l E h pa ga gw kP G w1 H1 hE hP hW1 (hc + 6) (hc + 4) (hc + 4) (hV.2.2.1 6 (by decide) (by decide)) (Or.inl (hV.2.2.1 4 (by decide) (by decide))) (Or.inl (hV.2.2.1 4 (by decide) (by decide)))) (cwV 3 hts (kt_inV kt_w206 kt_w260 kt_w204 kt_w205 kt_w3) rfl rfl rfl (by decide +kernel) ⟨Nat.le_of_ble_eq_true rfl, Nat.le_of_ble_eq_true rfl⟩) (kq_preV (kr_st E) (hC.1) (kq_recv hC.1.1 hOp1 rfl)) rfl rfl hl.1 rfl (lv_room (Nat.le_of_ble_eq_true rfl)) d_Cu_finish_40 ⟨Nat.zero_le _, Nat.zero_le _⟩) (fun u2 H2 L2 hq2 hL2 => ?_)
    obtain ⟨rfl, w2, hW2, f2, o2⟩ := hq2
    refine W.eq (g2 := F0 m 43 ls []) rfl ?_
    have hlc2 := t_lL (free := (fun q => q = sp ∨ q = sp + 1 ∨ q = sp + 2 ∨ kr_fr h hc q)) hlc1 (fun q z => Or.inr (Or.inr (Or.inr (by rcases hL2 q z with z | z | z <;> (rw [z]; unfold kr_fr; omega)))))
    have e2 : w2 (hc + 6) = w1 (hc + 4) * w1 (hc + 4) % kP := by rw [f2]
    have hOc2 := kr_obj hW2 hV.1 hV.2.1
    have hOp2 := kr_obj hW2 hP.1 hP.2.1
    refine lv_aload_n hx hb d_Cu_finish_43 rfl (lv_at hl 0 rfl) ?_
    refine kq_get hx hb hts kt_F_Cu hown hK hOc2 rfl 0 (by decide) kt_w99 rfl d_Cu_finish_44 ?_
    refine lv_aload_n hx hb d_Cu_finish_47 rfl (lv_at hl 0 rfl) ?_
    refine kq_get hx hb hts kt_F_Cu hown hK hOc2 rfl 7 (by decide) kt_w106 rfl d_Cu_finish_48 ?_
    refine lv_aload_n hx hb d_Cu_finish_51 rfl (lv_at hl 0 rfl) ?_
    refine kq_get hx hb hts kt_F_Cu hown hK hOc2 rfl 6 (by decide) kt_w105 rfl d_Cu_finish_52 ?_
    refine lv_aload_n hx hb d_Cu_finish_55 rfl (lv_at hl 0 rfl) ?_
    refine kq_get hx hb hts kt_F_Cu hown hK hOc2 rfl 4 (by decide) kt_w103 rfl d_Cu_finish_56 ?_
    refine kq_call (va_runV (As := [.ref (hc + 7), .ref (hc + 6), .ref (hc + 4)]) (rest := []) ⟨hx, hb, hml, hown, hts⟩ (c_Pr_product l E h pa ga gw kP G w2 H2 hE hP hW2 (hc + 7) (hc + 6) (hc + 4) (hV.2.2.1 7 (by decide) (by decide)) (Or.inl (hV.2.2.1 6 (by decide) (by decide))) (Or.inl (hV.2.2.1 4 (by decide) (by decide)))) (cwV 3 hts (kt_inV kt_w206 kt_w260 kt_w204 kt_w205 kt_w3) rfl rfl rfl (by decide +kernel) ⟨Nat.le_of_ble_eq_true rfl, Nat.le_of_ble_eq_true rfl⟩) (kq_preV (kr_st E) (hC.1) (kq_recv hC.1.1 hOp2 rfl)) rfl rfl hl.1 rfl (lv_room (Nat.le_of_ble_eq_true rfl)) d_Cu_finish_59 ⟨Nat.zero_le _, Nat.zero_le _⟩) (fun u3 H3 L3 hq3 hL3 => ?_)
    obtain ⟨rfl, w3, hW3, f3, o3⟩ := hq3
    refine W.eq (g2 := F0 m 62 ls []) rfl ?_
    have hlc3 := t_lL (free := (fun q => q = sp ∨ q = sp + 1 ∨ q = sp + 2 ∨ kr_fr h hc q)) hlc2 (fun q z => Or.inr (Or.inr (Or.inr (by rcases hL3 q z with z | z | z <;> (rw [z]; unfold kr_fr; omega)))))
    have e3 : w3 (hc + 7) = w2 (hc + 6) * w1 (hc + 4) % kP := by rw [f3, o2 (hc + 4) (by omega) (by omega) (by omega)]
    have hOc3 := kr_obj hW3 hV.1 hV.2.1
    have hOp3 := kr_obj hW3 hP.1 hP.2.1
    refine lv_aload_n hx hb d_Cu_finish_62 rfl (lv_at hl 0 rfl) ?_
    refine kq_get hx hb hts kt_F_Cu hown hK hOc3 rfl 0 (by decide) kt_w99 rfl d_Cu_finish_63 ?_
    refine lv_aload_n hx hb d_Cu_finish_66 rfl (lv_at hl 0 rfl) ?_
    refine kq_get hx hb hts kt_F_Cu hown hK hOc3 rfl 1 (by decide) kt_w100 rfl d_Cu_finish_67 ?_
    refine lv_aload_n hx hb d_Cu_finish_70 rfl (lv_at hl 0 rfl) ?_
    refine kq_get hx hb hts kt_F_Cu hown hK hOc3 rfl 1 (by decide) kt_w100 rfl d_Cu_finish_71 ?_
    refine lv_aload_n hx hb d_Cu_finish_74 rfl (lv_at hl 0 rfl) ?_
    refine kq_get hx hb hts kt_F_Cu hown hK hOc3 rfl 6 (by decide) kt_w105 rfl d_Cu_finish_75 ?_
    refine kq_call (va_runV (As := [.ref (hc + 1), .ref (hc + 1), .ref (hc + 6)]) (rest := []) ⟨hx, hb, hml, hown, hts⟩ (c_Pr_product l E h pa ga gw kP G w3 H3 hE hP hW3 (hc + 1) (hc + 1) (hc + 6) (hV.2.2.1 1 (by decide) (by decide)) (Or.inl (hV.2.2.1 1 (by decide) (by decide))) (Or.inl (hV.2.2.1 6 (by decide) (by decide)))) (cwV 3 hts (kt_inV kt_w206 kt_w260 kt_w204 kt_w205 kt_w3) rfl rfl rfl (by decide +kernel) ⟨Nat.le_of_ble_eq_true rfl, Nat.le_of_ble_eq_true rfl⟩) (kq_preV (kr_st E) (hC.1) (kq_recv hC.1.1 hOp3 rfl)) rfl rfl hl.1 rfl (lv_room (Nat.le_of_ble_eq_true rfl)) d_Cu_finish_78 ⟨Nat.zero_le _, Nat.zero_le _⟩) (fun u4 H4 L4 hq4 hL4 => ?_)
    obtain ⟨rfl, w4, hW4, f4, o4⟩ := hq4
    refine W.eq (g2 := F0 m 81 ls []) rfl ?_
    have hlc4 := t_lL (free := (fun q => q = sp ∨ q = sp + 1 ∨ q = sp + 2 ∨ kr_fr h hc q)) hlc3 (fun q z => Or.inr (Or.inr (Or.inr (by rcases hL4 q z with z | z | z <;> (rw [z]; unfold kr_fr; omega)))))
    have e4 : w4 (hc + 1) = w1 (hc + 1) * w2 (hc + 6) % kP := by rw [f4, o3 (hc + 1) (by omega) (by omega) (by omega), o2 (hc + 1) (by omega) (by omega) (by omega), o3 (hc + 6) (by omega) (by omega) (by omega)]
    have hOc4 := kr_obj hW4 hV.1 hV.2.1
    have hOp4 := kr_obj hW4 hP.1 hP.2.1
    refine lv_aload_n hx hb d_Cu_finish_81 rfl (lv_at hl 0 rfl) ?_
    refine kq_get hx hb hts kt_F_Cu hown hK hOc4 rfl 0 (by decide) kt_w99 rfl d_Cu_finish_82 ?_
    refine lv_aload_n hx hb d_Cu_finish_85 rfl (lv_at hl 0 rfl) ?_
    refine kq_get hx hb hts kt_F_Cu hown hK hOc4 rfl 2 (by decide) kt_w101 rfl d_Cu_finish_86 ?_
    refine lv_aload_n hx hb d_Cu_finish_89 rfl (lv_at hl 0 rfl) ?_
    refine kq_get hx hb hts kt_F_Cu hown hK hOc4 rfl 2 (by decide) kt_w101 rfl d_Cu_finish_90 ?_
    refine lv_aload_n hx hb d_Cu_finish_93 rfl (lv_at hl 0 rfl) ?_
    refine kq_get hx hb hts kt_F_Cu hown hK hOc4 rfl 7 (by decide) kt_w106 rfl d_Cu_finish_94 ?_
    refine kq_call (va_runV (As := [.ref (hc + 2), .ref (hc + 2), .ref (hc + 7)]) (rest := []) ⟨hx, hb, hml, hown, hts⟩ (c_Pr_product l E h pa ga gw kP G w4 H4 hE hP hW4 (hc + 2) (hc + 2) (hc + 7) (hV.2.2.1 2 (by decide) (by decide)) (Or.inl (hV.2.2.1 2 (by decide) (by decide))) (Or.inl (hV.2.2.1 7 (by decide) (by decide)))) (cwV 3 hts (kt_inV kt_w206 kt_w260 kt_w204 kt_w205 kt_w3) rfl rfl rfl (by decide +kernel) ⟨Nat.le_of_ble_eq_true rfl, Nat.le_of_ble_eq_true rfl⟩) (kq_preV (kr_st E) (hC.1) (kq_recv hC.1.1 hOp4 rfl)) rfl rfl hl.1 rfl (lv_room (Nat.le_of_ble_eq_true rfl)) d_Cu_finish_97 ⟨Nat.zero_le _, Nat.zero_le _⟩) (fun u5 H5 L5 hq5 hL5 => ?_)
    obtain ⟨rfl, w5, hW5, f5, o5⟩ := hq5
    refine W.eq (g2 := F0 m 100 ls []) rfl ?_
    have hlc5 := t_lL (free := (fun q => q = sp ∨ q = sp + 1 ∨ q = sp + 2 ∨ kr_fr h hc q)) hlc4 (fun q z => Or.inr (Or.inr (Or.inr (by rcases hL5 q z with z | z | z <;> (rw [z]; unfold kr_fr; omega)))))
    have e5 : w5 (hc + 2) = w1 (hc + 2) * w3 (hc + 7) % kP := by rw [f5, o4 (hc + 2) (by omega) (by omega) (by omega), o3 (hc + 2) (by omega) (by omega) (by omega), o2 (hc + 2) (by omega) (by omega) (by omega), o4 (hc + 7) (by omega) (by omega) (by omega)]
    have hOc5 := kr_obj hW5 hV.1 hV.2.1
    have hOp5 := kr_obj hW5 hP.1 hP.2.1
    rw [x1] at e4
    rw [x2] at e5
    have hend := kc_rep_end hrep f1 e2 e3 e4 e5
    have hOs := kr_obj hW5 hS.1 hS.2.1
    refine lv_aload_n hx hb d_Cu_finish_100 rfl (lv_at hl 1 rfl) ?_
    refine lv_aload_n hx hb d_Cu_finish_101 rfl (lv_at hl 0 rfl) ?_
    refine kq_get hx hb hts kt_F_Cu hown hK hOc5 rfl 1 (by decide) kt_w100 rfl d_Cu_finish_102 ?_
    refine lv_aload_n hx hb d_Cu_finish_105 rfl (lv_at hl 0 rfl) ?_
    refine kq_get hx hb hts kt_F_Cu hown hK hOc5 rfl 2 (by decide) kt_w101 rfl d_Cu_finish_106 ?_
    refine kq_call (va_runV (As := [.ref (hc + 1), .ref (hc + 2)]) (rest := []) ⟨hx, hb, hml, hown, hts⟩ (c_Sp_become l E w5 H5 hE hW5 sp b hS (hc + 1) (hc + 2) (Or.inl h1) (Or.inl h2) (by omega)) (cwV 2 hts (kt_inV kt_w284 kt_w315 kt_w282 kt_w283 kt_w2) rfl rfl rfl (by decide +kernel) ⟨Nat.le_of_ble_eq_true rfl, Nat.le_of_ble_eq_true rfl⟩) (kq_preV (kr_st E) (hB) (kq_recv hC.1.1 hOs rfl)) rfl rfl hl.1 rfl (lv_room (Nat.le_of_ble_eq_true rfl)) d_Cu_finish_109 ⟨Nat.zero_le _, Nat.zero_le _⟩) (fun u8 H8 L8 hq8 hL8 => ?_)
    obtain ⟨rfl, hX8⟩ := hq8
    refine W.eq (g2 := F0 m 112 ls []) rfl ?_
    refine W.vret hx hb hret (fun t ht _ => ⟨_, rfl, rfl, _, by rw [ht]; exact hX8, fun q1 hq => ?_, (fun q => by cases q), fun q q1 q2 q3 => ?_⟩) (t_lL (free := (fun q => q = sp ∨ q = sp + 1 ∨ q = sp + 2 ∨ kr_fr h hc q)) hlc5 (fun q z => by rcases hL8 q z with z | z | z <;> simp [z])) d_Cu_finish_112
    · cases hq
      rw [kq_up_ne (show sp + 1 ≠ sp + 2 by omega), kq_up_at, kq_up_at, o5 (hc + 1) (by omega) (by omega) (by omega)]
      exact hend
    · rw [kq_up_ne q2, kq_up_ne q1]
      have hq1 := q3
      unfold kr_fr at hq1
      rw [o5 q (by omega) (by omega) (by omega), o4 q (by omega) (by omega) (by omega), o3 q (by omega) (by omega) (by omega), o2 q (by omega) (by omega) (by omega)]
      exact k1 q q3
  · have hz : v (hc + 3) = 0 := by
      have q := Classical.not_not.mp (kq_z_eq.mp hc0)
      rw [hzm] at q
      exact q
    have ho := kc_rep_zero hrep hz
    subst ho
    have hOs := kr_obj hW1 hS.1 hS.2.1
    refine lv_aload_n hx hb d_Cu_finish_18 rfl (lv_at hl 1 rfl) ?_
    refine lv_iconst (v := nI 1) hx hb d_Cu_finish_19 (by decide) ?_
    refine kq_put hx hb hts kt_F_Sp t_Sp t_Sp_ok n_Sp hown hK hOs rfl 2 (by decide) kt_w33 rfl (ty := .boolean) (by decide +kernel) rfl rfl (Nat.le_of_ble_eq_true rfl) d_Cu_finish_20 (fun H3 L3 hP3 hz3 ho3 hL3 => ?_)
    have hP3 : va_P (kr_D E) kr_cl [(sp, .inr (2, [.ref (sp + 1), .ref (sp + 2), .int (kq_z true)]))] H3 := hP3
    exact W.vret hx hb hret (fun t ht _ => ⟨_, rfl, rfl, w1, ⟨H1, hW1, by rw [ht]; exact hz3, fun q hq => by rw [ht]; exact ho3 q hq, by rw [ht]; exact hP3⟩, (fun q hq => by cases hq), fun _ => ⟨k1 _ (by unfold kr_fr; omega), k1 _ (by unfold kr_fr; omega)⟩, fun q _ _ q3 => k1 q q3⟩) (t_lL (free := (fun q => q = sp ∨ q = sp + 1 ∨ q = sp + 2 ∨ kr_fr h hc q)) hlc1 (fun q z => Or.inl (hL3 q z))) d_Cu_finish_23
end
section
/-! KeyCurve: its world; register, spot, prime, set, get, add, subtract, multiply, invert, root, take, same (own rows). -/
def kx3 (r : Int32) : Nat := r.toBitVec.toNat % 4
def kx7 (r : Int32) : Nat := r.toBitVec.toNat % 8
theorem kx3_lt (r : Int32) : kx3 r < 4 := Nat.mod_lt _ (by decide)
theorem kx7_lt (r : Int32) : kx7 r < 8 := Nat.mod_lt _ (by decide)
theorem kx_and3 (r : Int32) : r &&& nI 3 = nI (kx3 r) := pk_and r 2 rfl
theorem kx_and7 (r : Int32) : r &&& nI 7 = nI (kx7 r) := pk_and r 3 rfl
theorem kx_mask (x : Int32) : x.toInt64 &&& lN 4294967295 = lN x.toBitVec.toNat := by
  apply wb_inj
  rw [Int64.toBitVec_and, Int32.toBitVec_toInt64, wb_tb, wb_tb]
  apply BitVec.eq_of_getLsbD_eq
  intro i hi
  rw [BitVec.getLsbD_and, BitVec.getLsbD_ofNat, BitVec.getLsbD_ofNat, show (4294967295 : Nat) = 2 ^ 32 - 1 by decide, Nat.testBit_two_pow_sub_one, BitVec.getLsbD_signExtend]
  by_cases h : i < 32
  · simp [h, hi, BitVec.getLsbD]
  · have e : x.toBitVec.toNat.testBit i = false := Nat.testBit_lt_two_pow (Nat.lt_of_lt_of_le x.toBitVec.isLt (Nat.pow_le_pow_right (by decide) (by omega)))
    simp [h, e]
/-- the prime by the flag -/
def kx_h (o : Nat) (d : Bool) : Nat := if d = true then o + 26 else o + 19
def kx_a (A : Nat → Nat) (d : Bool) : Nat := if d = true then A 7 else A 0
def kx_g (A : Nat → Nat) (d : Bool) : Nat := if d = true then A 8 else A 6
def kx_w (d : Bool) : Nat := if d = true then 5 else 2
def kx_m (d : Bool) : Nat := if d = true then kN else kP
def kx_G (d : Bool) : Nat := if d = true then kG_N else kG_P
/-- a KeyCurve at o: its four registers, four spots with the flags bs, two primes, the curve -/
def kr_O (E : kr_E) (A : Nat → Nat) (o : Nat) (bs : Nat → Bool) : Prop := va_P (kr_D E) kr_cl [(o, .inr (3, [.ref (o + 1), .ref (o + 6), .ref (o + 19), .ref (o + 26), .ref (o + 33)]))] (kr_H E) ∧ ¬ kr_L E o ∧ (¬ kr_L E (o + 1) ∧ ¬ kr_L E (o + 6)) ∧ kr_P E (o + 19) (A 0) (A 6) 2 kP kG_P ∧ kr_P E (o + 26) (A 7) (A 8) 5 kN kG_N ∧ kr_V E (o + 33) (o + 19) ∧ (∀ j, j < 4 → kr_out E (o + 2 + j)) ∧ ∀ j, j < 4 → kr_Sp E (o + 7 + 3 * j) (bs j)
theorem kr_O.pr {E : kr_E} {A : Nat → Nat} {o : Nat} {bs : Nat → Bool} (h : kr_O E A o bs) (d : Bool) : kr_P E (kx_h o d) (kx_a A d) (kx_g A d) (kx_w d) (kx_m d) (kx_G d) := by
  cases d with
  | false => exact h.2.2.2.1
  | true => exact h.2.2.2.2.1
def kr_K (E : kr_E) (A : Nat → Nat) (o : Nat) (U : State) : Prop := kr_C E A U ∧ kq_r U (.array .long) (kr_H E) (o + 1) 4 (fun i => .ref (o + 2 + i)) ∧ kq_r U (.object "KeyCurve$Spot") (kr_H E) (o + 6) 4 (fun i => .ref (o + 7 + 3 * i))
theorem kr_K_s2 (E : kr_E) (A : Nat → Nat) (o : Nat) : kq_s2 (kr_K E A o) := (kr_C_s2 E A).both (kq_st_r.two.both kq_st_r.two)
section KAA
variable {p : Program} {l : Launch} {e : Env} {R : Room} {s : State} {m : MethodId} {args : Array Value} {below : List Frame} {meth : Method} {c : Code} {H : Heap} {locs : List Loc} {cells slots : Nat} {Q : State → Prop}
variable {cc : ByteArray} {pc : Nat} {ls : Array Slot} {rest : List Value}
theorem kq_aald (hexec : p.tables.exec = Jvm.exec) (hb : c.code = cc) {a n : Nat} {ty : FieldType} {f : Nat → Value} (h : kq_r s ty H a n f) (hty : ty.isReference = true) {j : Nat} (hj : j < n) (hn : n < 2147483648) {v : Value} (hv : f j = v) (hdg : decode cc pc = .ok (.aaload, 1))
    (kk : W p l e R s m args below meth c H locs cells slots Q (F0 m (pc + 1) ls (v :: rest))) : W p l e R s m args below meth c H locs cells slots Q (F0 m pc ls (.int (nI j) :: .ref a :: rest)) := by
  obtain ⟨cell, h1, h2, h3, h4, h5⟩ := h
  exact W.aald (v := v) hexec hb h1 h2 hty h3 (kq_in hj hn h4) (by rw [nI_clamp (by omega), h5 j hj, hv]) rfl rfl hdg kk
end KAA
theorem d_Ke_register_0 : decode b_Ke_register 0 = .ok (.aload_n 0, 1) := by decide +kernel
theorem d_Ke_register_1 : decode b_Ke_register 1 = .ok (.getfield 11, 3) := by decide +kernel
theorem d_Ke_register_4 : decode b_Ke_register 4 = .ok (.iload_n 1, 1) := by decide +kernel
theorem d_Ke_register_5 : decode b_Ke_register 5 = .ok (.iconst 3, 1) := by decide +kernel
theorem d_Ke_register_6 : decode b_Ke_register 6 = .ok (.iand, 1) := by decide +kernel
theorem d_Ke_register_7 : decode b_Ke_register 7 = .ok (.aaload, 1) := by decide +kernel
theorem d_Ke_register_8 : decode b_Ke_register 8 = .ok (.areturn, 1) := by decide +kernel
set_option maxHeartbeats 4000000 in
set_option maxRecDepth 100000 in
theorem c_Ke_register (l : Launch) (E : kr_E) (A : Nat → Nat) (o : Nat) (bs : Nat → Bool) (v : Nat → Nat) (H : Heap) (hE : kr_ok E) (hA : kr_A E A) (hO : kr_O E A o bs) (hW : kr_W E v H) (r : Int32) : Met l y_Ke_register w_Ke_register ({ frames := 0, cells := 0, slots := 0, locals := 0 }) (kq_P [.ref o, .int r] H (kr_K E A o)) (kq_Q (fun o1 H1 => o1 = some (.ref (o + 2 + kx3 r)) ∧ H1 = H)) 0 0 (fun _ => False) := by
  refine Met.ofW (cc := b_Ke_register) (maxL := 2) (ret := (some (.array .long))) (by decide) rfl ?_
  intro p e s m args below meth c s₁ B0 hml hv
  obtain ⟨rfl, hH, hKK⟩ := hv
  have hx := B0.exec
  have hb := B0.bytes
  have hret := B0.returns
  have hts := atoms_spec (ws := w_Ke_register) B0.pre
  have hown : s.vm.findClass R_Ke = some m.cls := findClass_of_methodNamed B0.named
  have hlocks := B0.notSynchronized
  rw [hH]
  have hl := lv_entry ([.ref o, .int r]) (n := 2) (Nat.le_of_ble_eq_true rfl)
  rw [lg_entry_eq]
  generalize (lg_sl ([.ref o, .int r]) ++ List.replicate (2 - (lg_sl ([.ref o, .int r])).length) Slot.unset).toArray = ls at hl ⊢
  have hl : lv_has ls 2 [(0, .ref o), (1, .int r)] := hl
  have hB := hKK.1.1
  have hT := kr_T hE hB
  have hK := hB.1
  have hOo := kr_obj hW hO.1 hO.2.1
  have har := hKK.2.1.other (hW.2.2.1 (o + 1) hO.2.2.1.1)
  refine lv_aload_n hx hb d_Ke_register_0 rfl (lv_at hl 0 rfl) ?_
  refine kq_get hx hb hts kt_F_Ke hown hK hOo rfl 0 (by decide) kt_w136 rfl d_Ke_register_1 ?_
  refine lv_iload_n hx hb d_Ke_register_4 rfl (lv_at hl 1 rfl) ?_
  refine lv_iconst (v := nI 3) hx hb d_Ke_register_5 (by decide) ?_
  refine lv_iand hx hb d_Ke_register_6 ?_
  refine kq_ri (show r &&& (nI 3) = nI (kx3 r) from kx_and3 r) ?_
  refine kq_aald hx hb (har) rfl (kx3_lt r) (by decide) (rfl) d_Ke_register_7 ?_
  exact W.aret hx hb hret (by first | exact Or.inl ⟨_, rfl⟩ | exact Or.inr ⟨_, rfl⟩) (Or.inr ⟨_, rfl⟩) (fun t ht _ => ⟨_, rfl, rfl, ht⟩) (fun q h => by cases h) d_Ke_register_8
theorem d_Ke_spot_0 : decode b_Ke_spot 0 = .ok (.aload_n 0, 1) := by decide +kernel
theorem d_Ke_spot_1 : decode b_Ke_spot 1 = .ok (.getfield 16, 3) := by decide +kernel
theorem d_Ke_spot_4 : decode b_Ke_spot 4 = .ok (.iload_n 1, 1) := by decide +kernel
theorem d_Ke_spot_5 : decode b_Ke_spot 5 = .ok (.iconst 3, 1) := by decide +kernel
theorem d_Ke_spot_6 : decode b_Ke_spot 6 = .ok (.iand, 1) := by decide +kernel
theorem d_Ke_spot_7 : decode b_Ke_spot 7 = .ok (.aaload, 1) := by decide +kernel
theorem d_Ke_spot_8 : decode b_Ke_spot 8 = .ok (.areturn, 1) := by decide +kernel
set_option maxHeartbeats 4000000 in
set_option maxRecDepth 100000 in
theorem c_Ke_spot (l : Launch) (E : kr_E) (A : Nat → Nat) (o : Nat) (bs : Nat → Bool) (v : Nat → Nat) (H : Heap) (hE : kr_ok E) (hA : kr_A E A) (hO : kr_O E A o bs) (hW : kr_W E v H) (r : Int32) : Met l y_Ke_spot w_Ke_spot ({ frames := 0, cells := 0, slots := 0, locals := 0 }) (kq_P [.ref o, .int r] H (kr_K E A o)) (kq_Q (fun o1 H1 => o1 = some (.ref (o + 7 + 3 * kx3 r)) ∧ H1 = H)) 0 0 (fun _ => False) := by
  refine Met.ofW (cc := b_Ke_spot) (maxL := 2) (ret := (some (.object "KeyCurve$Spot"))) (by decide) rfl ?_
  intro p e s m args below meth c s₁ B0 hml hv
  obtain ⟨rfl, hH, hKK⟩ := hv
  have hx := B0.exec
  have hb := B0.bytes
  have hret := B0.returns
  have hts := atoms_spec (ws := w_Ke_spot) B0.pre
  have hown : s.vm.findClass R_Ke = some m.cls := findClass_of_methodNamed B0.named
  have hlocks := B0.notSynchronized
  rw [hH]
  have hl := lv_entry ([.ref o, .int r]) (n := 2) (Nat.le_of_ble_eq_true rfl)
  rw [lg_entry_eq]
  generalize (lg_sl ([.ref o, .int r]) ++ List.replicate (2 - (lg_sl ([.ref o, .int r])).length) Slot.unset).toArray = ls at hl ⊢
  have hl : lv_has ls 2 [(0, .ref o), (1, .int r)] := hl
  have hB := hKK.1.1
  have hT := kr_T hE hB
  have hK := hB.1
  have hOo := kr_obj hW hO.1 hO.2.1
  have har := hKK.2.2.other (hW.2.2.1 (o + 6) hO.2.2.1.2)
  refine lv_aload_n hx hb d_Ke_spot_0 rfl (lv_at hl 0 rfl) ?_
  refine kq_get hx hb hts kt_F_Ke hown hK hOo rfl 1 (by decide) kt_w137 rfl d_Ke_spot_1 ?_
  refine lv_iload_n hx hb d_Ke_spot_4 rfl (lv_at hl 1 rfl) ?_
  refine lv_iconst (v := nI 3) hx hb d_Ke_spot_5 (by decide) ?_
  refine lv_iand hx hb d_Ke_spot_6 ?_
  refine kq_ri (show r &&& (nI 3) = nI (kx3 r) from kx_and3 r) ?_
  refine kq_aald hx hb (har) rfl (kx3_lt r) (by decide) (rfl) d_Ke_spot_7 ?_
  exact W.aret hx hb hret (by first | exact Or.inl ⟨_, rfl⟩ | exact Or.inr ⟨_, rfl⟩) (Or.inr ⟨_, rfl⟩) (fun t ht _ => ⟨_, rfl, rfl, ht⟩) (fun q h => by cases h) d_Ke_spot_8
theorem d_Ke_prime_0 : decode b_Ke_prime 0 = .ok (.iload_n 1, 1) := by decide +kernel
theorem d_Ke_prime_1 : decode b_Ke_prime 1 = .ok (.ifCond .eq 10, 3) := by decide +kernel
theorem d_Ke_prime_4 : decode b_Ke_prime 4 = .ok (.aload_n 0, 1) := by decide +kernel
theorem d_Ke_prime_5 : decode b_Ke_prime 5 = .ok (.getfield 43, 3) := by decide +kernel
theorem d_Ke_prime_8 : decode b_Ke_prime 8 = .ok (.goto 7, 3) := by decide +kernel
theorem d_Ke_prime_11 : decode b_Ke_prime 11 = .ok (.aload_n 0, 1) := by decide +kernel
theorem d_Ke_prime_12 : decode b_Ke_prime 12 = .ok (.getfield 33, 3) := by decide +kernel
theorem d_Ke_prime_15 : decode b_Ke_prime 15 = .ok (.areturn, 1) := by decide +kernel
set_option maxHeartbeats 4000000 in
set_option maxRecDepth 100000 in
theorem c_Ke_prime (l : Launch) (E : kr_E) (A : Nat → Nat) (o : Nat) (bs : Nat → Bool) (v : Nat → Nat) (H : Heap) (hE : kr_ok E) (hA : kr_A E A) (hO : kr_O E A o bs) (hW : kr_W E v H) (d : Bool) : Met l y_Ke_prime w_Ke_prime ({ frames := 0, cells := 0, slots := 0, locals := 0 }) (kq_P [.ref o, .int (kq_z d)] H (kr_K E A o)) (kq_Q (fun o1 H1 => o1 = some (.ref (kx_h o d)) ∧ H1 = H)) 0 0 (fun _ => False) := by
  refine Met.ofW (cc := b_Ke_prime) (maxL := 2) (ret := (some (.object "KeyCurve$Prime"))) (by decide) rfl ?_
  intro p e s m args below meth c s₁ B0 hml hv
  obtain ⟨rfl, hH, hKK⟩ := hv
  have hx := B0.exec
  have hb := B0.bytes
  have hret := B0.returns
  have hts := atoms_spec (ws := w_Ke_prime) B0.pre
  have hown : s.vm.findClass R_Ke = some m.cls := findClass_of_methodNamed B0.named
  have hlocks := B0.notSynchronized
  rw [hH]
  have hl := lv_entry ([.ref o, .int (kq_z d)]) (n := 2) (Nat.le_of_ble_eq_true rfl)
  rw [lg_entry_eq]
  generalize (lg_sl ([.ref o, .int (kq_z d)]) ++ List.replicate (2 - (lg_sl ([.ref o, .int (kq_z d)])).length) Slot.unset).toArray = ls at hl ⊢
  have hl : lv_has ls 2 [(0, .ref o), (1, .int (kq_z d))] := hl
  have hB := hKK.1.1
  have hT := kr_T hE hB
  have hK := hB.1
  have hOo := kr_obj hW hO.1 hO.2.1
  refine lv_iload_n hx hb d_Ke_prime_0 rfl (lv_at hl 1 rfl) ?_
  refine lv_if_eq hx hb d_Ke_prime_1 rfl (fun hc0 => ?_) (fun hc0 => ?_)
  · have hd := kq_z_b0 hc0
    subst hd
    refine lv_aload_n hx hb d_Ke_prime_11 rfl (lv_at hl 0 rfl) ?_
    refine kq_get hx hb hts kt_F_Ke hown hK hOo rfl 2 (by decide) kt_w138 rfl d_Ke_prime_12 ?_
    exact W.aret hx hb hret (Or.inl ⟨_, rfl⟩) (Or.inr ⟨_, rfl⟩) (fun t ht _ => ⟨_, rfl, rfl, ht⟩) (fun q h => by cases h) d_Ke_prime_15
  · have hd := kq_z_b1 hc0
    subst hd
    refine lv_aload_n hx hb d_Ke_prime_4 rfl (lv_at hl 0 rfl) ?_
    refine kq_get hx hb hts kt_F_Ke hown hK hOo rfl 3 (by decide) kt_w139 rfl d_Ke_prime_5 ?_
    refine lv_goto hx hb d_Ke_prime_8 rfl ?_
    exact W.aret hx hb hret (Or.inl ⟨_, rfl⟩) (Or.inr ⟨_, rfl⟩) (fun t ht _ => ⟨_, rfl, rfl, ht⟩) (fun q h => by cases h) d_Ke_prime_15
theorem d_Ke_get_0 : decode b_Ke_get 0 = .ok (.aload_n 0, 1) := by decide +kernel
theorem d_Ke_get_1 : decode b_Ke_get 1 = .ok (.iload_n 1, 1) := by decide +kernel
theorem d_Ke_get_2 : decode b_Ke_get 2 = .ok (.invokevirtual 55, 3) := by decide +kernel
theorem d_Ke_get_5 : decode b_Ke_get 5 = .ok (.iload_n 2, 1) := by decide +kernel
theorem d_Ke_get_6 : decode b_Ke_get 6 = .ok (.bipush 7, 2) := by decide +kernel
theorem d_Ke_get_8 : decode b_Ke_get 8 = .ok (.iand, 1) := by decide +kernel
theorem d_Ke_get_9 : decode b_Ke_get 9 = .ok (.laload, 1) := by decide +kernel
theorem d_Ke_get_10 : decode b_Ke_get 10 = .ok (.l2i, 1) := by decide +kernel
theorem d_Ke_get_11 : decode b_Ke_get 11 = .ok (.ireturn, 1) := by decide +kernel
set_option maxHeartbeats 4000000 in
set_option maxRecDepth 100000 in
theorem c_Ke_get (l : Launch) (E : kr_E) (A : Nat → Nat) (o : Nat) (bs : Nat → Bool) (v : Nat → Nat) (H : Heap) (hE : kr_ok E) (hA : kr_A E A) (hO : kr_O E A o bs) (hW : kr_W E v H) (r k : Int32) : Met l y_Ke_get w_Ke_get ({ frames := 1, cells := 0, slots := 0, locals := 21 }) (kq_P [.ref o, .int r, .int k] H (kr_K E A o)) (kq_Q (fun o1 H1 => o1 = some (.int (nI (kw_d (v (o + 2 + kx3 r)) (kx7 k)))) ∧ kr_W E v H1)) 0 0 (fun _ => False) := by
  refine Met.ofW (cc := b_Ke_get) (maxL := 3) (ret := (some .int)) (by decide) rfl ?_
  intro p e s m args below meth c s₁ B0 hml hv
  obtain ⟨rfl, hH, hKK⟩ := hv
  have hx := B0.exec
  have hb := B0.bytes
  have hret := B0.returns
  have hts := atoms_spec (ws := w_Ke_get) B0.pre
  have hown : s.vm.findClass R_Ke = some m.cls := findClass_of_methodNamed B0.named
  have hlocks := B0.notSynchronized
  rw [hH]
  have hl := lv_entry ([.ref o, .int r, .int k]) (n := 3) (Nat.le_of_ble_eq_true rfl)
  rw [lg_entry_eq]
  generalize (lg_sl ([.ref o, .int r, .int k]) ++ List.replicate (3 - (lg_sl ([.ref o, .int r, .int k])).length) Slot.unset).toArray = ls at hl ⊢
  have hl : lv_has ls 3 [(0, .ref o), (1, .int r), (2, .int k)] := hl
  have hB := hKK.1.1
  have hT := kr_T hE hB
  have hK := hB.1
  have hOo := kr_obj hW hO.1 hO.2.1
  have hsr := kr_src hE hW hB (Or.inl (hO.2.2.2.2.2.2.1 (kx3 r) (kx3_lt r)))
  refine lv_aload_n hx hb d_Ke_get_0 rfl (lv_at hl 0 rfl) ?_
  refine lv_iload_n hx hb d_Ke_get_1 rfl (lv_at hl 1 rfl) ?_
  refine kq_call (va_runV (As := [.int r]) (rest := []) ⟨hx, hb, hml, hown, hts⟩ (c_Ke_register l E A o bs v H hE hA hO hW r) (cwV 1 hts (kt_inV kt_w159 kt_w156 kt_w158 kt_s0 kt_w1) rfl rfl rfl (by decide +kernel) ⟨Nat.le_of_ble_eq_true rfl, Nat.le_of_ble_eq_true rfl⟩) (kq_p2V (kr_K_s2 E A o) (hKK) (kq_recv hKK.1.1.1 hOo rfl)) rfl rfl hl.1 rfl (lv_room (Nat.le_of_ble_eq_true rfl)) d_Ke_get_2 ⟨Nat.zero_le _, Nat.zero_le _⟩) (fun v9 H9 L9 hq9 hL9 => ?_)
  obtain ⟨rfl, e9⟩ := hq9
  rw [e9]
  clear e9
  refine W.eq (g2 := F0 m 5 ls [.ref (o + 2 + kx3 r)]) rfl ?_
  refine lv_iload_n hx hb d_Ke_get_5 rfl (lv_at hl 2 rfl) ?_
  refine lv_bipush (v := nI 7) hx hb d_Ke_get_6 (by decide) ?_
  refine lv_iand hx hb d_Ke_get_8 ?_
  refine kq_ri (show k &&& (nI 7) = nI (kx7 k) from kx_and7 k) ?_
  refine kq_lald hx hb (hsr) (kx7_lt k) (by decide) (rfl) d_Ke_get_9 ?_
  refine lv_l2i (v := nI (kw_d (v (o + 2 + kx3 r)) (kx7 k))) hx hb d_Ke_get_10 (lN_i _) ?_
  exact W.iret hx hb hret (fun t ht _ => ⟨_, rfl, rfl, by rw [ht]; exact hW⟩) (t_lL (free := fun _ => False) (fun q h => by cases h) (fun q z => (hL9 q z).elim)) d_Ke_get_11
theorem d_Ke_set_0 : decode b_Ke_set 0 = .ok (.aload_n 0, 1) := by decide +kernel
theorem d_Ke_set_1 : decode b_Ke_set 1 = .ok (.iload_n 1, 1) := by decide +kernel
theorem d_Ke_set_2 : decode b_Ke_set 2 = .ok (.invokevirtual 55, 3) := by decide +kernel
theorem d_Ke_set_5 : decode b_Ke_set 5 = .ok (.astore 4, 2) := by decide +kernel
theorem d_Ke_set_7 : decode b_Ke_set 7 = .ok (.aload 4, 2) := by decide +kernel
theorem d_Ke_set_9 : decode b_Ke_set 9 = .ok (.iload_n 2, 1) := by decide +kernel
theorem d_Ke_set_10 : decode b_Ke_set 10 = .ok (.bipush 7, 2) := by decide +kernel
theorem d_Ke_set_12 : decode b_Ke_set 12 = .ok (.iand, 1) := by decide +kernel
theorem d_Ke_set_13 : decode b_Ke_set 13 = .ok (.laload, 1) := by decide +kernel
theorem d_Ke_set_14 : decode b_Ke_set 14 = .ok (.l2i, 1) := by decide +kernel
theorem d_Ke_set_15 : decode b_Ke_set 15 = .ok (.istore 5, 2) := by decide +kernel
theorem d_Ke_set_17 : decode b_Ke_set 17 = .ok (.aload 4, 2) := by decide +kernel
theorem d_Ke_set_19 : decode b_Ke_set 19 = .ok (.iload_n 2, 1) := by decide +kernel
theorem d_Ke_set_20 : decode b_Ke_set 20 = .ok (.bipush 7, 2) := by decide +kernel
theorem d_Ke_set_22 : decode b_Ke_set 22 = .ok (.iand, 1) := by decide +kernel
theorem d_Ke_set_23 : decode b_Ke_set 23 = .ok (.iload_n 3, 1) := by decide +kernel
theorem d_Ke_set_24 : decode b_Ke_set 24 = .ok (.i2l, 1) := by decide +kernel
theorem d_Ke_set_25 : decode b_Ke_set 25 = .ok (.ldc2_w 59, 3) := by decide +kernel
theorem d_Ke_set_28 : decode b_Ke_set 28 = .ok (.land, 1) := by decide +kernel
theorem d_Ke_set_29 : decode b_Ke_set 29 = .ok (.lastore, 1) := by decide +kernel
theorem d_Ke_set_30 : decode b_Ke_set 30 = .ok (.iload 5, 2) := by decide +kernel
theorem d_Ke_set_32 : decode b_Ke_set 32 = .ok (.ireturn, 1) := by decide +kernel
set_option maxHeartbeats 4000000 in
set_option maxRecDepth 100000 in
theorem c_Ke_set (l : Launch) (E : kr_E) (A : Nat → Nat) (o : Nat) (bs : Nat → Bool) (v : Nat → Nat) (H : Heap) (hE : kr_ok E) (hA : kr_A E A) (hO : kr_O E A o bs) (hW : kr_W E v H) (r k x : Int32) : Met l y_Ke_set w_Ke_set ({ frames := 1, cells := 0, slots := 0, locals := 21 }) (kq_P [.ref o, .int r, .int k, .int x] H (kr_K E A o)) (kq_Q (fun o1 H1 => o1 = some (.int (nI (kw_d (v (o + 2 + kx3 r)) (kx7 k)))) ∧ kr_W E (va_up v (o + 2 + kx3 r) (kw_s (v (o + 2 + kx3 r)) (kx7 k) x.toBitVec.toNat)) H1)) 0 0 (fun q => q = o + 2 + kx3 r) := by
  refine Met.ofW (cc := b_Ke_set) (maxL := 6) (ret := (some .int)) (by decide) rfl ?_
  intro p e s m args below meth c s₁ B0 hml hv
  obtain ⟨rfl, hH, hKK⟩ := hv
  have hx := B0.exec
  have hb := B0.bytes
  have hret := B0.returns
  have hts := atoms_spec (ws := w_Ke_set) B0.pre
  have hown : s.vm.findClass R_Ke = some m.cls := findClass_of_methodNamed B0.named
  have hlocks := B0.notSynchronized
  rw [hH]
  have hl := lv_entry ([.ref o, .int r, .int k, .int x]) (n := 6) (Nat.le_of_ble_eq_true rfl)
  rw [lg_entry_eq]
  generalize (lg_sl ([.ref o, .int r, .int k, .int x]) ++ List.replicate (6 - (lg_sl ([.ref o, .int r, .int k, .int x])).length) Slot.unset).toArray = ls at hl ⊢
  have hl : lv_has ls 6 [(0, .ref o), (1, .int r), (2, .int k), (3, .int x)] := hl
  have hB := hKK.1.1
  have hT := kr_T hE hB
  have hK := hB.1
  have hOo := kr_obj hW hO.1 hO.2.1
  have hro := hO.2.2.2.2.2.2.1 (kx3 r) (kx3_lt r)
  have hsr := kr_src hE hW hB (Or.inl hro)
  have hlr := kr_lt hE hW (Or.inl hro)
  have hxl : x.toBitVec.toNat < 4294967296 := x.toBitVec.isLt
  refine lv_aload_n hx hb d_Ke_set_0 rfl (lv_at hl 0 rfl) ?_
  refine lv_iload_n hx hb d_Ke_set_1 rfl (lv_at hl 1 rfl) ?_
  refine kq_call (va_runV (As := [.int r]) (rest := []) ⟨hx, hb, hml, hown, hts⟩ (c_Ke_register l E A o bs v H hE hA hO hW r) (cwV 1 hts (kt_inV kt_w159 kt_w156 kt_w158 kt_s0 kt_w1) rfl rfl rfl (by decide +kernel) ⟨Nat.le_of_ble_eq_true rfl, Nat.le_of_ble_eq_true rfl⟩) (kq_p2V (kr_K_s2 E A o) (hKK) (kq_recv hKK.1.1.1 hOo rfl)) rfl rfl hl.1 rfl (lv_room (Nat.le_of_ble_eq_true rfl)) d_Ke_set_2 ⟨Nat.zero_le _, Nat.zero_le _⟩) (fun v9 H9 L9 hq9 hL9 => ?_)
  obtain ⟨rfl, e9⟩ := hq9
  rw [e9]
  clear e9
  refine W.eq (g2 := F0 m 5 ls [.ref (o + 2 + kx3 r)]) rfl ?_
  refine lv_astore hx hb d_Ke_set_5 hl (by decide) rfl (fun ls hl => ?_)
  have hl : lv_has ls 6 [(4, .ref (o + 2 + kx3 r)), (0, .ref o), (1, .int r), (2, .int k), (3, .int x)] := hl
  refine lv_aload hx hb d_Ke_set_7 (lv_at hl 0 rfl) ?_
  refine lv_iload_n hx hb d_Ke_set_9 rfl (lv_at hl 3 rfl) ?_
  refine lv_bipush (v := nI 7) hx hb d_Ke_set_10 (by decide) ?_
  refine lv_iand hx hb d_Ke_set_12 ?_
  refine kq_ri (show k &&& (nI 7) = nI (kx7 k) from kx_and7 k) ?_
  refine kq_lald hx hb (hsr) (kx7_lt k) (by decide) (rfl) d_Ke_set_13 ?_
  refine lv_l2i (v := nI (kw_d (v (o + 2 + kx3 r)) (kx7 k))) hx hb d_Ke_set_14 (lN_i _) ?_
  refine lv_istore hx hb d_Ke_set_15 hl (by decide) rfl (fun ls hl => ?_)
  have hl : lv_has ls 6 [(5, .int (nI (kw_d (v (o + 2 + kx3 r)) (kx7 k)))), (4, .ref (o + 2 + kx3 r)), (0, .ref o), (1, .int r), (2, .int k), (3, .int x)] := hl
  refine lv_aload hx hb d_Ke_set_17 (lv_at hl 1 rfl) ?_
  refine lv_iload_n hx hb d_Ke_set_19 rfl (lv_at hl 4 rfl) ?_
  refine lv_bipush (v := nI 7) hx hb d_Ke_set_20 (by decide) ?_
  refine lv_iand hx hb d_Ke_set_22 ?_
  refine kq_ri (show k &&& (nI 7) = nI (kx7 k) from kx_and7 k) ?_
  refine lv_iload_n hx hb d_Ke_set_23 rfl (lv_at hl 5 rfl) ?_
  refine lv_i2l (v := x.toInt64) hx hb d_Ke_set_24 (rfl) ?_
  refine lv_ldc2 hx hb hown (v := lN 4294967295) (hts _ (List.mem_cons_of_mem _ kt_w160)) d_Ke_set_25 ?_
  refine lv_land hx hb d_Ke_set_28 ?_
  refine kq_rl (show x.toInt64 &&& (lN 4294967295) = lN x.toBitVec.toNat from kx_mask x) ?_
  refine kq_last hx hb (hT) (kr_row hW hro) (kx7_lt k) (by decide) (hxl) d_Ke_set_29 ?_
  refine lv_iload hx hb d_Ke_set_30 (lv_at hl 0 rfl) ?_
  exact W.iret hx hb hret (fun t ht _ => ⟨_, rfl, rfl, by rw [ht]; exact kr_put hE hW hro (kw_s_lt hlr (kx7_lt k) hxl)⟩) (t_lc (free := fun q => q = o + 2 + kx3 r) (t_lL (free := fun q => q = o + 2 + kx3 r) (fun q h => by cases h) (fun q z => (hL9 q z).elim)) rfl) d_Ke_set_32
theorem d_Ke_add_0 : decode b_Ke_add 0 = .ok (.aload_n 0, 1) := by decide +kernel
theorem d_Ke_add_1 : decode b_Ke_add 1 = .ok (.iload 4, 2) := by decide +kernel
theorem d_Ke_add_3 : decode b_Ke_add 3 = .ok (.invokevirtual 61, 3) := by decide +kernel
theorem d_Ke_add_6 : decode b_Ke_add 6 = .ok (.aload_n 0, 1) := by decide +kernel
theorem d_Ke_add_7 : decode b_Ke_add 7 = .ok (.iload_n 1, 1) := by decide +kernel
theorem d_Ke_add_8 : decode b_Ke_add 8 = .ok (.invokevirtual 55, 3) := by decide +kernel
theorem d_Ke_add_11 : decode b_Ke_add 11 = .ok (.aload_n 0, 1) := by decide +kernel
theorem d_Ke_add_12 : decode b_Ke_add 12 = .ok (.iload_n 2, 1) := by decide +kernel
theorem d_Ke_add_13 : decode b_Ke_add 13 = .ok (.invokevirtual 55, 3) := by decide +kernel
theorem d_Ke_add_16 : decode b_Ke_add 16 = .ok (.aload_n 0, 1) := by decide +kernel
theorem d_Ke_add_17 : decode b_Ke_add 17 = .ok (.iload_n 3, 1) := by decide +kernel
theorem d_Ke_add_18 : decode b_Ke_add 18 = .ok (.invokevirtual 55, 3) := by decide +kernel
theorem d_Ke_add_21 : decode b_Ke_add 21 = .ok (.invokevirtual 65, 3) := by decide +kernel
theorem d_Ke_add_24 : decode b_Ke_add 24 = .ok (.return_, 1) := by decide +kernel
set_option maxHeartbeats 4000000 in
set_option maxRecDepth 100000 in
theorem c_Ke_add (l : Launch) (E : kr_E) (A : Nat → Nat) (o : Nat) (bs : Nat → Bool) (v : Nat → Nat) (H : Heap) (hE : kr_ok E) (hA : kr_A E A) (hO : kr_O E A o bs) (hW : kr_W E v H) (r a b : Int32) (d : Bool) : Met l y_Ke_add w_Ke_add ({ frames := 3, cells := 0, slots := 0, locals := 77 }) (kq_P [.ref o, .int r, .int a, .int b, .int (kq_z d)] H (kr_K E A o)) (kq_Q (fun o1 H1 => o1 = none ∧ ∃ w : Nat → Nat, kr_W E w H1 ∧ w (o + 2 + kx3 r) = (v (o + 2 + kx3 a) + v (o + 2 + kx3 b)) % kx_m d ∧ ∀ q, q ≠ o + 2 + kx3 r → q ≠ kx_h o d + 1 → q ≠ kx_h o d + 2 → w q = v q)) 0 0 (fun q => q = o + 2 + kx3 r ∨ q = kx_h o d + 1 ∨ q = kx_h o d + 2) := by
  refine Met.ofW (cc := b_Ke_add) (maxL := 5) (ret := none) (by decide) rfl ?_
  intro p e s m args below meth c s₁ B0 hml hv
  obtain ⟨rfl, hH, hKK⟩ := hv
  have hx := B0.exec
  have hb := B0.bytes
  have hret := B0.returns
  have hts := atoms_spec (ws := w_Ke_add) B0.pre
  have hown : s.vm.findClass R_Ke = some m.cls := findClass_of_methodNamed B0.named
  have hlocks := B0.notSynchronized
  rw [hH]
  have hl := lv_entry ([.ref o, .int r, .int a, .int b, .int (kq_z d)]) (n := 5) (Nat.le_of_ble_eq_true rfl)
  rw [lg_entry_eq]
  generalize (lg_sl ([.ref o, .int r, .int a, .int b, .int (kq_z d)]) ++ List.replicate (5 - (lg_sl ([.ref o, .int r, .int a, .int b, .int (kq_z d)])).length) Slot.unset).toArray = ls at hl ⊢
  have hl : lv_has ls 5 [(0, .ref o), (1, .int r), (2, .int a), (3, .int b), (4, .int (kq_z d))] := hl
  have hB := hKK.1.1
  have hT := kr_T hE hB
  have hK := hB.1
  have hOo := kr_obj hW hO.1 hO.2.1
  have hro := hO.2.2.2.2.2.2.1 (kx3 r) (kx3_lt r)
  have hao := hO.2.2.2.2.2.2.1 (kx3 a) (kx3_lt a)
  have hbo := hO.2.2.2.2.2.2.1 (kx3 b) (kx3_lt b)
  have hP := hO.pr d
  have hOp := kr_obj hW hP.1 hP.2.1
  refine lv_aload_n hx hb d_Ke_add_0 rfl (lv_at hl 0 rfl) ?_
  refine lv_iload hx hb d_Ke_add_1 (lv_at hl 4 rfl) ?_
  refine kq_call (va_runV (As := [.int (kq_z d)]) (rest := []) ⟨hx, hb, hml, hown, hts⟩ (c_Ke_prime l E A o bs v H hE hA hO hW d) (cwV 1 hts (kt_inV kt_w172 kt_w169 kt_w171 kt_s1 kt_w1) rfl rfl rfl (by decide +kernel) ⟨Nat.le_of_ble_eq_true rfl, Nat.le_of_ble_eq_true rfl⟩) (kq_p2V (kr_K_s2 E A o) (hKK) (kq_recv hB.1 hOo rfl)) rfl rfl hl.1 rfl (lv_room (Nat.le_of_ble_eq_true rfl)) d_Ke_add_3 ⟨Nat.zero_le _, Nat.zero_le _⟩) (fun v9 H9 L1 hq9 hL1 => ?_)
  obtain ⟨rfl, e9⟩ := hq9
  rw [e9]
  clear e9
  refine W.eq (g2 := F0 m 6 ls [.ref (kx_h o d)]) rfl ?_
  refine lv_aload_n hx hb d_Ke_add_6 rfl (lv_at hl 0 rfl) ?_
  refine lv_iload_n hx hb d_Ke_add_7 rfl (lv_at hl 1 rfl) ?_
  refine kq_call (va_runV (As := [.int r]) (rest := [.ref (kx_h o d)]) ⟨hx, hb, hml, hown, hts⟩ (c_Ke_register l E A o bs v H hE hA hO hW r) (cwV 1 hts (kt_inV kt_w159 kt_w156 kt_w158 kt_s0 kt_w1) rfl rfl rfl (by decide +kernel) ⟨Nat.le_of_ble_eq_true rfl, Nat.le_of_ble_eq_true rfl⟩) (kq_p2V (kr_K_s2 E A o) (hKK) (kq_recv hKK.1.1.1 hOo rfl)) rfl rfl hl.1 rfl (lv_room (Nat.le_of_ble_eq_true rfl)) d_Ke_add_8 ⟨Nat.zero_le _, Nat.zero_le _⟩) (fun v9 H9 L2 hq9 hL2 => ?_)
  obtain ⟨rfl, e9⟩ := hq9
  rw [e9]
  clear e9
  refine W.eq (g2 := F0 m 11 ls [.ref (o + 2 + kx3 r), .ref (kx_h o d)]) rfl ?_
  refine lv_aload_n hx hb d_Ke_add_11 rfl (lv_at hl 0 rfl) ?_
  refine lv_iload_n hx hb d_Ke_add_12 rfl (lv_at hl 2 rfl) ?_
  refine kq_call (va_runV (As := [.int a]) (rest := [.ref (o + 2 + kx3 r), .ref (kx_h o d)]) ⟨hx, hb, hml, hown, hts⟩ (c_Ke_register l E A o bs v H hE hA hO hW a) (cwV 1 hts (kt_inV kt_w159 kt_w156 kt_w158 kt_s0 kt_w1) rfl rfl rfl (by decide +kernel) ⟨Nat.le_of_ble_eq_true rfl, Nat.le_of_ble_eq_true rfl⟩) (kq_p2V (kr_K_s2 E A o) (hKK) (kq_recv hKK.1.1.1 hOo rfl)) rfl rfl hl.1 rfl (lv_room (Nat.le_of_ble_eq_true rfl)) d_Ke_add_13 ⟨Nat.zero_le _, Nat.zero_le _⟩) (fun v9 H9 L3 hq9 hL3 => ?_)
  obtain ⟨rfl, e9⟩ := hq9
  rw [e9]
  clear e9
  refine W.eq (g2 := F0 m 16 ls [.ref (o + 2 + kx3 a), .ref (o + 2 + kx3 r), .ref (kx_h o d)]) rfl ?_
  refine lv_aload_n hx hb d_Ke_add_16 rfl (lv_at hl 0 rfl) ?_
  refine lv_iload_n hx hb d_Ke_add_17 rfl (lv_at hl 3 rfl) ?_
  refine kq_call (va_runV (As := [.int b]) (rest := [.ref (o + 2 + kx3 a), .ref (o + 2 + kx3 r), .ref (kx_h o d)]) ⟨hx, hb, hml, hown, hts⟩ (c_Ke_register l E A o bs v H hE hA hO hW b) (cwV 1 hts (kt_inV kt_w159 kt_w156 kt_w158 kt_s0 kt_w1) rfl rfl rfl (by decide +kernel) ⟨Nat.le_of_ble_eq_true rfl, Nat.le_of_ble_eq_true rfl⟩) (kq_p2V (kr_K_s2 E A o) (hKK) (kq_recv hKK.1.1.1 hOo rfl)) rfl rfl hl.1 rfl (lv_room (Nat.le_of_ble_eq_true rfl)) d_Ke_add_18 ⟨Nat.zero_le _, Nat.zero_le _⟩) (fun v9 H9 L4 hq9 hL4 => ?_)
  obtain ⟨rfl, e9⟩ := hq9
  rw [e9]
  clear e9
  refine W.eq (g2 := F0 m 21 ls [.ref (o + 2 + kx3 b), .ref (o + 2 + kx3 a), .ref (o + 2 + kx3 r), .ref (kx_h o d)]) rfl ?_
  refine kq_call (va_runV (As := [.ref (o + 2 + kx3 r), .ref (o + 2 + kx3 a), .ref (o + 2 + kx3 b)]) (rest := []) ⟨hx, hb, hml, hown, hts⟩ (c_Pr_sum l E (kx_h o d) (kx_a A d) (kx_g A d) (kx_w d) (kx_m d) (kx_G d) v H hE hP hW (o + 2 + kx3 r) (o + 2 + kx3 a) (o + 2 + kx3 b) hro (Or.inl hao) (Or.inl hbo)) (cwV 3 hts (kt_inV kt_w176 kt_w173 kt_w174 kt_w175 kt_w3) rfl rfl rfl (by decide +kernel) ⟨Nat.le_of_ble_eq_true rfl, Nat.le_of_ble_eq_true rfl⟩) (kq_preV (kr_st E) (hB) (kq_recv hB.1 hOp rfl)) rfl rfl hl.1 rfl (lv_room (Nat.le_of_ble_eq_true rfl)) d_Ke_add_21 ⟨Nat.zero_le _, Nat.zero_le _⟩) (fun v9 H9 L5 hq9 hL5 => ?_)
  obtain ⟨rfl, hW9⟩ := hq9
  refine W.eq (g2 := F0 m 24 ls []) rfl ?_
  exact W.vret hx hb hret (fun t ht _ => ⟨_, rfl, rfl, _, by rw [ht]; exact hW9, kq_up_at, fun q q1 _ _ => kq_up_ne q1⟩) (t_lL (free := (fun q => q = o + 2 + kx3 r ∨ q = kx_h o d + 1 ∨ q = kx_h o d + 2)) (t_lL (free := (fun q => q = o + 2 + kx3 r ∨ q = kx_h o d + 1 ∨ q = kx_h o d + 2)) (t_lL (free := (fun q => q = o + 2 + kx3 r ∨ q = kx_h o d + 1 ∨ q = kx_h o d + 2)) (t_lL (free := (fun q => q = o + 2 + kx3 r ∨ q = kx_h o d + 1 ∨ q = kx_h o d + 2)) (t_lL (free := (fun q => q = o + 2 + kx3 r ∨ q = kx_h o d + 1 ∨ q = kx_h o d + 2)) (fun q h => by cases h) (fun q z => (hL1 q z).elim)) (fun q z => (hL2 q z).elim)) (fun q z => (hL3 q z).elim)) (fun q z => (hL4 q z).elim)) (fun q z => Or.inl (hL5 q z))) d_Ke_add_24
theorem d_Ke_subtract_0 : decode b_Ke_subtract 0 = .ok (.aload_n 0, 1) := by decide +kernel
theorem d_Ke_subtract_1 : decode b_Ke_subtract 1 = .ok (.iload 4, 2) := by decide +kernel
theorem d_Ke_subtract_3 : decode b_Ke_subtract 3 = .ok (.invokevirtual 61, 3) := by decide +kernel
theorem d_Ke_subtract_6 : decode b_Ke_subtract 6 = .ok (.aload_n 0, 1) := by decide +kernel
theorem d_Ke_subtract_7 : decode b_Ke_subtract 7 = .ok (.iload_n 1, 1) := by decide +kernel
theorem d_Ke_subtract_8 : decode b_Ke_subtract 8 = .ok (.invokevirtual 55, 3) := by decide +kernel
theorem d_Ke_subtract_11 : decode b_Ke_subtract 11 = .ok (.aload_n 0, 1) := by decide +kernel
theorem d_Ke_subtract_12 : decode b_Ke_subtract 12 = .ok (.iload_n 2, 1) := by decide +kernel
theorem d_Ke_subtract_13 : decode b_Ke_subtract 13 = .ok (.invokevirtual 55, 3) := by decide +kernel
theorem d_Ke_subtract_16 : decode b_Ke_subtract 16 = .ok (.aload_n 0, 1) := by decide +kernel
theorem d_Ke_subtract_17 : decode b_Ke_subtract 17 = .ok (.iload_n 3, 1) := by decide +kernel
theorem d_Ke_subtract_18 : decode b_Ke_subtract 18 = .ok (.invokevirtual 55, 3) := by decide +kernel
theorem d_Ke_subtract_21 : decode b_Ke_subtract 21 = .ok (.invokevirtual 69, 3) := by decide +kernel
theorem d_Ke_subtract_24 : decode b_Ke_subtract 24 = .ok (.return_, 1) := by decide +kernel
set_option maxHeartbeats 4000000 in
set_option maxRecDepth 100000 in
theorem c_Ke_subtract (l : Launch) (E : kr_E) (A : Nat → Nat) (o : Nat) (bs : Nat → Bool) (v : Nat → Nat) (H : Heap) (hE : kr_ok E) (hA : kr_A E A) (hO : kr_O E A o bs) (hW : kr_W E v H) (r a b : Int32) (d : Bool) : Met l y_Ke_subtract w_Ke_subtract ({ frames := 3, cells := 0, slots := 0, locals := 77 }) (kq_P [.ref o, .int r, .int a, .int b, .int (kq_z d)] H (kr_K E A o)) (kq_Q (fun o1 H1 => o1 = none ∧ ∃ w : Nat → Nat, kr_W E w H1 ∧ w (o + 2 + kx3 r) = kp_dif (kx_m d) (v (o + 2 + kx3 a)) (v (o + 2 + kx3 b)) ∧ ∀ q, q ≠ o + 2 + kx3 r → q ≠ kx_h o d + 1 → q ≠ kx_h o d + 2 → w q = v q)) 0 0 (fun q => q = o + 2 + kx3 r ∨ q = kx_h o d + 1 ∨ q = kx_h o d + 2) := by
  refine Met.ofW (cc := b_Ke_subtract) (maxL := 5) (ret := none) (by decide) rfl ?_
  intro p e s m args below meth c s₁ B0 hml hv
  obtain ⟨rfl, hH, hKK⟩ := hv
  have hx := B0.exec
  have hb := B0.bytes
  have hret := B0.returns
  have hts := atoms_spec (ws := w_Ke_subtract) B0.pre
  have hown : s.vm.findClass R_Ke = some m.cls := findClass_of_methodNamed B0.named
  have hlocks := B0.notSynchronized
  rw [hH]
  have hl := lv_entry ([.ref o, .int r, .int a, .int b, .int (kq_z d)]) (n := 5) (Nat.le_of_ble_eq_true rfl)
  rw [lg_entry_eq]
  generalize (lg_sl ([.ref o, .int r, .int a, .int b, .int (kq_z d)]) ++ List.replicate (5 - (lg_sl ([.ref o, .int r, .int a, .int b, .int (kq_z d)])).length) Slot.unset).toArray = ls at hl ⊢
  have hl : lv_has ls 5 [(0, .ref o), (1, .int r), (2, .int a), (3, .int b), (4, .int (kq_z d))] := hl
  have hB := hKK.1.1
  have hT := kr_T hE hB
  have hK := hB.1
  have hOo := kr_obj hW hO.1 hO.2.1
  have hro := hO.2.2.2.2.2.2.1 (kx3 r) (kx3_lt r)
  have hao := hO.2.2.2.2.2.2.1 (kx3 a) (kx3_lt a)
  have hbo := hO.2.2.2.2.2.2.1 (kx3 b) (kx3_lt b)
  have hP := hO.pr d
  have hOp := kr_obj hW hP.1 hP.2.1
  refine lv_aload_n hx hb d_Ke_subtract_0 rfl (lv_at hl 0 rfl) ?_
  refine lv_iload hx hb d_Ke_subtract_1 (lv_at hl 4 rfl) ?_
  refine kq_call (va_runV (As := [.int (kq_z d)]) (rest := []) ⟨hx, hb, hml, hown, hts⟩ (c_Ke_prime l E A o bs v H hE hA hO hW d) (cwV 1 hts (kt_inV kt_w172 kt_w169 kt_w171 kt_s1 kt_w1) rfl rfl rfl (by decide +kernel) ⟨Nat.le_of_ble_eq_true rfl, Nat.le_of_ble_eq_true rfl⟩) (kq_p2V (kr_K_s2 E A o) (hKK) (kq_recv hB.1 hOo rfl)) rfl rfl hl.1 rfl (lv_room (Nat.le_of_ble_eq_true rfl)) d_Ke_subtract_3 ⟨Nat.zero_le _, Nat.zero_le _⟩) (fun v9 H9 L1 hq9 hL1 => ?_)
  obtain ⟨rfl, e9⟩ := hq9
  rw [e9]
  clear e9
  refine W.eq (g2 := F0 m 6 ls [.ref (kx_h o d)]) rfl ?_
  refine lv_aload_n hx hb d_Ke_subtract_6 rfl (lv_at hl 0 rfl) ?_
  refine lv_iload_n hx hb d_Ke_subtract_7 rfl (lv_at hl 1 rfl) ?_
  refine kq_call (va_runV (As := [.int r]) (rest := [.ref (kx_h o d)]) ⟨hx, hb, hml, hown, hts⟩ (c_Ke_register l E A o bs v H hE hA hO hW r) (cwV 1 hts (kt_inV kt_w159 kt_w156 kt_w158 kt_s0 kt_w1) rfl rfl rfl (by decide +kernel) ⟨Nat.le_of_ble_eq_true rfl, Nat.le_of_ble_eq_true rfl⟩) (kq_p2V (kr_K_s2 E A o) (hKK) (kq_recv hKK.1.1.1 hOo rfl)) rfl rfl hl.1 rfl (lv_room (Nat.le_of_ble_eq_true rfl)) d_Ke_subtract_8 ⟨Nat.zero_le _, Nat.zero_le _⟩) (fun v9 H9 L2 hq9 hL2 => ?_)
  obtain ⟨rfl, e9⟩ := hq9
  rw [e9]
  clear e9
  refine W.eq (g2 := F0 m 11 ls [.ref (o + 2 + kx3 r), .ref (kx_h o d)]) rfl ?_
  refine lv_aload_n hx hb d_Ke_subtract_11 rfl (lv_at hl 0 rfl) ?_
  refine lv_iload_n hx hb d_Ke_subtract_12 rfl (lv_at hl 2 rfl) ?_
  refine kq_call (va_runV (As := [.int a]) (rest := [.ref (o + 2 + kx3 r), .ref (kx_h o d)]) ⟨hx, hb, hml, hown, hts⟩ (c_Ke_register l E A o bs v H hE hA hO hW a) (cwV 1 hts (kt_inV kt_w159 kt_w156 kt_w158 kt_s0 kt_w1) rfl rfl rfl (by decide +kernel) ⟨Nat.le_of_ble_eq_true rfl, Nat.le_of_ble_eq_true rfl⟩) (kq_p2V (kr_K_s2 E A o) (hKK) (kq_recv hKK.1.1.1 hOo rfl)) rfl rfl hl.1 rfl (lv_room (Nat.le_of_ble_eq_true rfl)) d_Ke_subtract_13 ⟨Nat.zero_le _, Nat.zero_le _⟩) (fun v9 H9 L3 hq9 hL3 => ?_)
  obtain ⟨rfl, e9⟩ := hq9
  rw [e9]
  clear e9
  refine W.eq (g2 := F0 m 16 ls [.ref (o + 2 + kx3 a), .ref (o + 2 + kx3 r), .ref (kx_h o d)]) rfl ?_
  refine lv_aload_n hx hb d_Ke_subtract_16 rfl (lv_at hl 0 rfl) ?_
  refine lv_iload_n hx hb d_Ke_subtract_17 rfl (lv_at hl 3 rfl) ?_
  refine kq_call (va_runV (As := [.int b]) (rest := [.ref (o + 2 + kx3 a), .ref (o + 2 + kx3 r), .ref (kx_h o d)]) ⟨hx, hb, hml, hown, hts⟩ (c_Ke_register l E A o bs v H hE hA hO hW b) (cwV 1 hts (kt_inV kt_w159 kt_w156 kt_w158 kt_s0 kt_w1) rfl rfl rfl (by decide +kernel) ⟨Nat.le_of_ble_eq_true rfl, Nat.le_of_ble_eq_true rfl⟩) (kq_p2V (kr_K_s2 E A o) (hKK) (kq_recv hKK.1.1.1 hOo rfl)) rfl rfl hl.1 rfl (lv_room (Nat.le_of_ble_eq_true rfl)) d_Ke_subtract_18 ⟨Nat.zero_le _, Nat.zero_le _⟩) (fun v9 H9 L4 hq9 hL4 => ?_)
  obtain ⟨rfl, e9⟩ := hq9
  rw [e9]
  clear e9
  refine W.eq (g2 := F0 m 21 ls [.ref (o + 2 + kx3 b), .ref (o + 2 + kx3 a), .ref (o + 2 + kx3 r), .ref (kx_h o d)]) rfl ?_
  refine kq_call (va_runV (As := [.ref (o + 2 + kx3 r), .ref (o + 2 + kx3 a), .ref (o + 2 + kx3 b)]) (rest := []) ⟨hx, hb, hml, hown, hts⟩ (c_Pr_difference l E (kx_h o d) (kx_a A d) (kx_g A d) (kx_w d) (kx_m d) (kx_G d) v H hE hP hW (o + 2 + kx3 r) (o + 2 + kx3 a) (o + 2 + kx3 b) hro (Or.inl hao) (Or.inl hbo)) (cwV 3 hts (kt_inV kt_w198 kt_w195 kt_w196 kt_w197 kt_w3) rfl rfl rfl (by decide +kernel) ⟨Nat.le_of_ble_eq_true rfl, Nat.le_of_ble_eq_true rfl⟩) (kq_preV (kr_st E) (hB) (kq_recv hB.1 hOp rfl)) rfl rfl hl.1 rfl (lv_room (Nat.le_of_ble_eq_true rfl)) d_Ke_subtract_21 ⟨Nat.zero_le _, Nat.zero_le _⟩) (fun v9 H9 L5 hq9 hL5 => ?_)
  obtain ⟨rfl, hW9⟩ := hq9
  refine W.eq (g2 := F0 m 24 ls []) rfl ?_
  exact W.vret hx hb hret (fun t ht _ => ⟨_, rfl, rfl, _, by rw [ht]; exact hW9, kq_up_at, fun q q1 _ _ => kq_up_ne q1⟩) (t_lL (free := (fun q => q = o + 2 + kx3 r ∨ q = kx_h o d + 1 ∨ q = kx_h o d + 2)) (t_lL (free := (fun q => q = o + 2 + kx3 r ∨ q = kx_h o d + 1 ∨ q = kx_h o d + 2)) (t_lL (free := (fun q => q = o + 2 + kx3 r ∨ q = kx_h o d + 1 ∨ q = kx_h o d + 2)) (t_lL (free := (fun q => q = o + 2 + kx3 r ∨ q = kx_h o d + 1 ∨ q = kx_h o d + 2)) (t_lL (free := (fun q => q = o + 2 + kx3 r ∨ q = kx_h o d + 1 ∨ q = kx_h o d + 2)) (fun q h => by cases h) (fun q z => (hL1 q z).elim)) (fun q z => (hL2 q z).elim)) (fun q z => (hL3 q z).elim)) (fun q z => (hL4 q z).elim)) (fun q z => Or.inl (hL5 q z))) d_Ke_subtract_24
theorem d_Ke_multiply_0 : decode b_Ke_multiply 0 = .ok (.aload_n 0, 1) := by decide +kernel
theorem d_Ke_multiply_1 : decode b_Ke_multiply 1 = .ok (.iload 4, 2) := by decide +kernel
theorem d_Ke_multiply_3 : decode b_Ke_multiply 3 = .ok (.invokevirtual 61, 3) := by decide +kernel
theorem d_Ke_multiply_6 : decode b_Ke_multiply 6 = .ok (.aload_n 0, 1) := by decide +kernel
theorem d_Ke_multiply_7 : decode b_Ke_multiply 7 = .ok (.iload_n 1, 1) := by decide +kernel
theorem d_Ke_multiply_8 : decode b_Ke_multiply 8 = .ok (.invokevirtual 55, 3) := by decide +kernel
theorem d_Ke_multiply_11 : decode b_Ke_multiply 11 = .ok (.aload_n 0, 1) := by decide +kernel
theorem d_Ke_multiply_12 : decode b_Ke_multiply 12 = .ok (.iload_n 2, 1) := by decide +kernel
theorem d_Ke_multiply_13 : decode b_Ke_multiply 13 = .ok (.invokevirtual 55, 3) := by decide +kernel
theorem d_Ke_multiply_16 : decode b_Ke_multiply 16 = .ok (.aload_n 0, 1) := by decide +kernel
theorem d_Ke_multiply_17 : decode b_Ke_multiply 17 = .ok (.iload_n 3, 1) := by decide +kernel
theorem d_Ke_multiply_18 : decode b_Ke_multiply 18 = .ok (.invokevirtual 55, 3) := by decide +kernel
theorem d_Ke_multiply_21 : decode b_Ke_multiply 21 = .ok (.invokevirtual 72, 3) := by decide +kernel
theorem d_Ke_multiply_24 : decode b_Ke_multiply 24 = .ok (.return_, 1) := by decide +kernel
set_option maxHeartbeats 4000000 in
set_option maxRecDepth 100000 in
theorem c_Ke_multiply (l : Launch) (E : kr_E) (A : Nat → Nat) (o : Nat) (bs : Nat → Bool) (v : Nat → Nat) (H : Heap) (hE : kr_ok E) (hA : kr_A E A) (hO : kr_O E A o bs) (hW : kr_W E v H) (r a b : Int32) (d : Bool) : Met l y_Ke_multiply w_Ke_multiply ({ frames := 3, cells := 0, slots := 0, locals := 77 }) (kq_P [.ref o, .int r, .int a, .int b, .int (kq_z d)] H (kr_K E A o)) (kq_Q (fun o1 H1 => o1 = none ∧ ∃ w : Nat → Nat, kr_W E w H1 ∧ w (o + 2 + kx3 r) = v (o + 2 + kx3 a) * v (o + 2 + kx3 b) % kx_m d ∧ ∀ q, q ≠ o + 2 + kx3 r → q ≠ kx_h o d + 1 → q ≠ kx_h o d + 2 → w q = v q)) 0 0 (fun q => q = o + 2 + kx3 r ∨ q = kx_h o d + 1 ∨ q = kx_h o d + 2) := by
  refine Met.ofW (cc := b_Ke_multiply) (maxL := 5) (ret := none) (by decide) rfl ?_
  intro p e s m args below meth c s₁ B0 hml hv
  obtain ⟨rfl, hH, hKK⟩ := hv
  have hx := B0.exec
  have hb := B0.bytes
  have hret := B0.returns
  have hts := atoms_spec (ws := w_Ke_multiply) B0.pre
  have hown : s.vm.findClass R_Ke = some m.cls := findClass_of_methodNamed B0.named
  have hlocks := B0.notSynchronized
  rw [hH]
  have hl := lv_entry ([.ref o, .int r, .int a, .int b, .int (kq_z d)]) (n := 5) (Nat.le_of_ble_eq_true rfl)
  rw [lg_entry_eq]
  generalize (lg_sl ([.ref o, .int r, .int a, .int b, .int (kq_z d)]) ++ List.replicate (5 - (lg_sl ([.ref o, .int r, .int a, .int b, .int (kq_z d)])).length) Slot.unset).toArray = ls at hl ⊢
  have hl : lv_has ls 5 [(0, .ref o), (1, .int r), (2, .int a), (3, .int b), (4, .int (kq_z d))] := hl
  have hB := hKK.1.1
  have hT := kr_T hE hB
  have hK := hB.1
  have hOo := kr_obj hW hO.1 hO.2.1
  have hro := hO.2.2.2.2.2.2.1 (kx3 r) (kx3_lt r)
  have hao := hO.2.2.2.2.2.2.1 (kx3 a) (kx3_lt a)
  have hbo := hO.2.2.2.2.2.2.1 (kx3 b) (kx3_lt b)
  have hP := hO.pr d
  have hOp := kr_obj hW hP.1 hP.2.1
  refine lv_aload_n hx hb d_Ke_multiply_0 rfl (lv_at hl 0 rfl) ?_
  refine lv_iload hx hb d_Ke_multiply_1 (lv_at hl 4 rfl) ?_
  refine kq_call (va_runV (As := [.int (kq_z d)]) (rest := []) ⟨hx, hb, hml, hown, hts⟩ (c_Ke_prime l E A o bs v H hE hA hO hW d) (cwV 1 hts (kt_inV kt_w172 kt_w169 kt_w171 kt_s1 kt_w1) rfl rfl rfl (by decide +kernel) ⟨Nat.le_of_ble_eq_true rfl, Nat.le_of_ble_eq_true rfl⟩) (kq_p2V (kr_K_s2 E A o) (hKK) (kq_recv hB.1 hOo rfl)) rfl rfl hl.1 rfl (lv_room (Nat.le_of_ble_eq_true rfl)) d_Ke_multiply_3 ⟨Nat.zero_le _, Nat.zero_le _⟩) (fun v9 H9 L1 hq9 hL1 => ?_)
  obtain ⟨rfl, e9⟩ := hq9
  rw [e9]
  clear e9
  refine W.eq (g2 := F0 m 6 ls [.ref (kx_h o d)]) rfl ?_
  refine lv_aload_n hx hb d_Ke_multiply_6 rfl (lv_at hl 0 rfl) ?_
  refine lv_iload_n hx hb d_Ke_multiply_7 rfl (lv_at hl 1 rfl) ?_
  refine kq_call (va_runV (As := [.int r]) (rest := [.ref (kx_h o d)]) ⟨hx, hb, hml, hown, hts⟩ (c_Ke_register l E A o bs v H hE hA hO hW r) (cwV 1 hts (kt_inV kt_w159 kt_w156 kt_w158 kt_s0 kt_w1) rfl rfl rfl (by decide +kernel) ⟨Nat.le_of_ble_eq_true rfl, Nat.le_of_ble_eq_true rfl⟩) (kq_p2V (kr_K_s2 E A o) (hKK) (kq_recv hKK.1.1.1 hOo rfl)) rfl rfl hl.1 rfl (lv_room (Nat.le_of_ble_eq_true rfl)) d_Ke_multiply_8 ⟨Nat.zero_le _, Nat.zero_le _⟩) (fun v9 H9 L2 hq9 hL2 => ?_)
  obtain ⟨rfl, e9⟩ := hq9
  rw [e9]
  clear e9
  refine W.eq (g2 := F0 m 11 ls [.ref (o + 2 + kx3 r), .ref (kx_h o d)]) rfl ?_
  refine lv_aload_n hx hb d_Ke_multiply_11 rfl (lv_at hl 0 rfl) ?_
  refine lv_iload_n hx hb d_Ke_multiply_12 rfl (lv_at hl 2 rfl) ?_
  refine kq_call (va_runV (As := [.int a]) (rest := [.ref (o + 2 + kx3 r), .ref (kx_h o d)]) ⟨hx, hb, hml, hown, hts⟩ (c_Ke_register l E A o bs v H hE hA hO hW a) (cwV 1 hts (kt_inV kt_w159 kt_w156 kt_w158 kt_s0 kt_w1) rfl rfl rfl (by decide +kernel) ⟨Nat.le_of_ble_eq_true rfl, Nat.le_of_ble_eq_true rfl⟩) (kq_p2V (kr_K_s2 E A o) (hKK) (kq_recv hKK.1.1.1 hOo rfl)) rfl rfl hl.1 rfl (lv_room (Nat.le_of_ble_eq_true rfl)) d_Ke_multiply_13 ⟨Nat.zero_le _, Nat.zero_le _⟩) (fun v9 H9 L3 hq9 hL3 => ?_)
  obtain ⟨rfl, e9⟩ := hq9
  rw [e9]
  clear e9
  refine W.eq (g2 := F0 m 16 ls [.ref (o + 2 + kx3 a), .ref (o + 2 + kx3 r), .ref (kx_h o d)]) rfl ?_
  refine lv_aload_n hx hb d_Ke_multiply_16 rfl (lv_at hl 0 rfl) ?_
  refine lv_iload_n hx hb d_Ke_multiply_17 rfl (lv_at hl 3 rfl) ?_
  refine kq_call (va_runV (As := [.int b]) (rest := [.ref (o + 2 + kx3 a), .ref (o + 2 + kx3 r), .ref (kx_h o d)]) ⟨hx, hb, hml, hown, hts⟩ (c_Ke_register l E A o bs v H hE hA hO hW b) (cwV 1 hts (kt_inV kt_w159 kt_w156 kt_w158 kt_s0 kt_w1) rfl rfl rfl (by decide +kernel) ⟨Nat.le_of_ble_eq_true rfl, Nat.le_of_ble_eq_true rfl⟩) (kq_p2V (kr_K_s2 E A o) (hKK) (kq_recv hKK.1.1.1 hOo rfl)) rfl rfl hl.1 rfl (lv_room (Nat.le_of_ble_eq_true rfl)) d_Ke_multiply_18 ⟨Nat.zero_le _, Nat.zero_le _⟩) (fun v9 H9 L4 hq9 hL4 => ?_)
  obtain ⟨rfl, e9⟩ := hq9
  rw [e9]
  clear e9
  refine W.eq (g2 := F0 m 21 ls [.ref (o + 2 + kx3 b), .ref (o + 2 + kx3 a), .ref (o + 2 + kx3 r), .ref (kx_h o d)]) rfl ?_
  refine kq_call (va_runV (As := [.ref (o + 2 + kx3 r), .ref (o + 2 + kx3 a), .ref (o + 2 + kx3 b)]) (rest := []) ⟨hx, hb, hml, hown, hts⟩ (c_Pr_product l E (kx_h o d) (kx_a A d) (kx_g A d) (kx_w d) (kx_m d) (kx_G d) v H hE hP hW (o + 2 + kx3 r) (o + 2 + kx3 a) (o + 2 + kx3 b) hro (Or.inl hao) (Or.inl hbo)) (cwV 3 hts (kt_inV kt_w206 kt_w203 kt_w204 kt_w205 kt_w3) rfl rfl rfl (by decide +kernel) ⟨Nat.le_of_ble_eq_true rfl, Nat.le_of_ble_eq_true rfl⟩) (kq_preV (kr_st E) (hB) (kq_recv hB.1 hOp rfl)) rfl rfl hl.1 rfl (lv_room (Nat.le_of_ble_eq_true rfl)) d_Ke_multiply_21 ⟨Nat.zero_le _, Nat.zero_le _⟩) (fun v9 H9 L5 hq9 hL5 => ?_)
  obtain ⟨rfl, w9, hW9, e9, o9⟩ := hq9
  refine W.eq (g2 := F0 m 24 ls []) rfl ?_
  exact W.vret hx hb hret (fun t ht _ => ⟨_, rfl, rfl, w9, by rw [ht]; exact hW9, e9, o9⟩) (t_lL (free := (fun q => q = o + 2 + kx3 r ∨ q = kx_h o d + 1 ∨ q = kx_h o d + 2)) (t_lL (free := (fun q => q = o + 2 + kx3 r ∨ q = kx_h o d + 1 ∨ q = kx_h o d + 2)) (t_lL (free := (fun q => q = o + 2 + kx3 r ∨ q = kx_h o d + 1 ∨ q = kx_h o d + 2)) (t_lL (free := (fun q => q = o + 2 + kx3 r ∨ q = kx_h o d + 1 ∨ q = kx_h o d + 2)) (t_lL (free := (fun q => q = o + 2 + kx3 r ∨ q = kx_h o d + 1 ∨ q = kx_h o d + 2)) (fun q h => by cases h) (fun q z => (hL1 q z).elim)) (fun q z => (hL2 q z).elim)) (fun q z => (hL3 q z).elim)) (fun q z => (hL4 q z).elim)) hL5) d_Ke_multiply_24
theorem d_Ke_invert_0 : decode b_Ke_invert 0 = .ok (.aload_n 0, 1) := by decide +kernel
theorem d_Ke_invert_1 : decode b_Ke_invert 1 = .ok (.iload_n 3, 1) := by decide +kernel
theorem d_Ke_invert_2 : decode b_Ke_invert 2 = .ok (.invokevirtual 61, 3) := by decide +kernel
theorem d_Ke_invert_5 : decode b_Ke_invert 5 = .ok (.aload_n 0, 1) := by decide +kernel
theorem d_Ke_invert_6 : decode b_Ke_invert 6 = .ok (.iload_n 1, 1) := by decide +kernel
theorem d_Ke_invert_7 : decode b_Ke_invert 7 = .ok (.invokevirtual 55, 3) := by decide +kernel
theorem d_Ke_invert_10 : decode b_Ke_invert 10 = .ok (.aload_n 0, 1) := by decide +kernel
theorem d_Ke_invert_11 : decode b_Ke_invert 11 = .ok (.iload_n 2, 1) := by decide +kernel
theorem d_Ke_invert_12 : decode b_Ke_invert 12 = .ok (.invokevirtual 55, 3) := by decide +kernel
theorem d_Ke_invert_15 : decode b_Ke_invert 15 = .ok (.invokevirtual 75, 3) := by decide +kernel
theorem d_Ke_invert_18 : decode b_Ke_invert 18 = .ok (.ireturn, 1) := by decide +kernel
set_option maxHeartbeats 4000000 in
set_option maxRecDepth 100000 in
theorem c_Ke_invert (l : Launch) (E : kr_E) (A : Nat → Nat) (o : Nat) (bs : Nat → Bool) (v : Nat → Nat) (H : Heap) (hE : kr_ok E) (hA : kr_A E A) (hO : kr_O E A o bs) (hW : kr_W E v H) (r a : Int32) (d : Bool) : Met l y_Ke_invert w_Ke_invert ({ frames := 5, cells := 0, slots := 0, locals := 121 }) (kq_P [.ref o, .int r, .int a, .int (kq_z d)] H (kr_K E A o)) (kq_Q (fun o1 H1 => o1 = some (.int (kq_z (decide (¬ v (o + 2 + kx3 a) % kx_m d = 0)))) ∧ ∃ w : Nat → Nat, kr_W E w H1 ∧ w (o + 2 + kx3 r) = (if v (o + 2 + kx3 a) % kx_m d = 0 then v (o + 2 + kx3 r) else kf_inv (kx_m d) (v (o + 2 + kx3 a) % kx_m d)) ∧ ∀ q, q ≠ o + 2 + kx3 r → q ≠ kx_h o d + 1 → q ≠ kx_h o d + 2 → q ≠ kx_h o d + 3 → q ≠ kx_h o d + 4 → q ≠ kx_h o d + 5 → w q = v q)) 0 0 (fun q => q = o + 2 + kx3 r ∨ q = kx_h o d + 1 ∨ q = kx_h o d + 2 ∨ q = kx_h o d + 3 ∨ q = kx_h o d + 4 ∨ q = kx_h o d + 5) := by
  refine Met.ofW (cc := b_Ke_invert) (maxL := 4) (ret := (some .boolean)) (by decide) rfl ?_
  intro p e s m args below meth c s₁ B0 hml hv
  obtain ⟨rfl, hH, hKK⟩ := hv
  have hx := B0.exec
  have hb := B0.bytes
  have hret := B0.returns
  have hts := atoms_spec (ws := w_Ke_invert) B0.pre
  have hown : s.vm.findClass R_Ke = some m.cls := findClass_of_methodNamed B0.named
  have hlocks := B0.notSynchronized
  rw [hH]
  have hl := lv_entry ([.ref o, .int r, .int a, .int (kq_z d)]) (n := 4) (Nat.le_of_ble_eq_true rfl)
  rw [lg_entry_eq]
  generalize (lg_sl ([.ref o, .int r, .int a, .int (kq_z d)]) ++ List.replicate (4 - (lg_sl ([.ref o, .int r, .int a, .int (kq_z d)])).length) Slot.unset).toArray = ls at hl ⊢
  have hl : lv_has ls 4 [(0, .ref o), (1, .int r), (2, .int a), (3, .int (kq_z d))] := hl
  have hB := hKK.1.1
  have hT := kr_T hE hB
  have hK := hB.1
  have hOo := kr_obj hW hO.1 hO.2.1
  have hro := hO.2.2.2.2.2.2.1 (kx3 r) (kx3_lt r)
  have hao := hO.2.2.2.2.2.2.1 (kx3 a) (kx3_lt a)
  have hP := hO.pr d
  have hOp := kr_obj hW hP.1 hP.2.1
  have h5 : o + 2 + kx3 r ≠ kx_h o d + 5 := by
    have := kx3_lt r
    unfold kx_h
    split <;> omega
  refine lv_aload_n hx hb d_Ke_invert_0 rfl (lv_at hl 0 rfl) ?_
  refine lv_iload_n hx hb d_Ke_invert_1 rfl (lv_at hl 3 rfl) ?_
  refine kq_call (va_runV (As := [.int (kq_z d)]) (rest := []) ⟨hx, hb, hml, hown, hts⟩ (c_Ke_prime l E A o bs v H hE hA hO hW d) (cwV 1 hts (kt_inV kt_w172 kt_w169 kt_w171 kt_s1 kt_w1) rfl rfl rfl (by decide +kernel) ⟨Nat.le_of_ble_eq_true rfl, Nat.le_of_ble_eq_true rfl⟩) (kq_p2V (kr_K_s2 E A o) (hKK) (kq_recv hB.1 hOo rfl)) rfl rfl hl.1 rfl (lv_room (Nat.le_of_ble_eq_true rfl)) d_Ke_invert_2 ⟨Nat.zero_le _, Nat.zero_le _⟩) (fun v9 H9 L1 hq9 hL1 => ?_)
  obtain ⟨rfl, e9⟩ := hq9
  rw [e9]
  clear e9
  refine W.eq (g2 := F0 m 5 ls [.ref (kx_h o d)]) rfl ?_
  refine lv_aload_n hx hb d_Ke_invert_5 rfl (lv_at hl 0 rfl) ?_
  refine lv_iload_n hx hb d_Ke_invert_6 rfl (lv_at hl 1 rfl) ?_
  refine kq_call (va_runV (As := [.int r]) (rest := [.ref (kx_h o d)]) ⟨hx, hb, hml, hown, hts⟩ (c_Ke_register l E A o bs v H hE hA hO hW r) (cwV 1 hts (kt_inV kt_w159 kt_w156 kt_w158 kt_s0 kt_w1) rfl rfl rfl (by decide +kernel) ⟨Nat.le_of_ble_eq_true rfl, Nat.le_of_ble_eq_true rfl⟩) (kq_p2V (kr_K_s2 E A o) (hKK) (kq_recv hKK.1.1.1 hOo rfl)) rfl rfl hl.1 rfl (lv_room (Nat.le_of_ble_eq_true rfl)) d_Ke_invert_7 ⟨Nat.zero_le _, Nat.zero_le _⟩) (fun v9 H9 L2 hq9 hL2 => ?_)
  obtain ⟨rfl, e9⟩ := hq9
  rw [e9]
  clear e9
  refine W.eq (g2 := F0 m 10 ls [.ref (o + 2 + kx3 r), .ref (kx_h o d)]) rfl ?_
  refine lv_aload_n hx hb d_Ke_invert_10 rfl (lv_at hl 0 rfl) ?_
  refine lv_iload_n hx hb d_Ke_invert_11 rfl (lv_at hl 2 rfl) ?_
  refine kq_call (va_runV (As := [.int a]) (rest := [.ref (o + 2 + kx3 r), .ref (kx_h o d)]) ⟨hx, hb, hml, hown, hts⟩ (c_Ke_register l E A o bs v H hE hA hO hW a) (cwV 1 hts (kt_inV kt_w159 kt_w156 kt_w158 kt_s0 kt_w1) rfl rfl rfl (by decide +kernel) ⟨Nat.le_of_ble_eq_true rfl, Nat.le_of_ble_eq_true rfl⟩) (kq_p2V (kr_K_s2 E A o) (hKK) (kq_recv hKK.1.1.1 hOo rfl)) rfl rfl hl.1 rfl (lv_room (Nat.le_of_ble_eq_true rfl)) d_Ke_invert_12 ⟨Nat.zero_le _, Nat.zero_le _⟩) (fun v9 H9 L3 hq9 hL3 => ?_)
  obtain ⟨rfl, e9⟩ := hq9
  rw [e9]
  clear e9
  refine W.eq (g2 := F0 m 15 ls [.ref (o + 2 + kx3 a), .ref (o + 2 + kx3 r), .ref (kx_h o d)]) rfl ?_
  refine kq_call (va_runV (As := [.ref (o + 2 + kx3 r), .ref (o + 2 + kx3 a)]) (rest := []) ⟨hx, hb, hml, hown, hts⟩ (c_Pr_inverse l E A (kx_h o d) (kx_a A d) (kx_g A d) (kx_w d) (kx_m d) (kx_G d) v H hE hA hP hW (o + 2 + kx3 r) (o + 2 + kx3 a) hro (Or.inl hao) h5) (cwV 2 hts (kt_inV kt_w233 kt_w230 kt_w231 kt_w232 kt_w3) rfl rfl rfl (by decide +kernel) ⟨Nat.le_of_ble_eq_true rfl, Nat.le_of_ble_eq_true rfl⟩) (kq_p2V (kr_C_s2 E A) (hKK.1) (kq_recv hB.1 hOp rfl)) rfl rfl hl.1 rfl (lv_room (Nat.le_of_ble_eq_true rfl)) d_Ke_invert_15 ⟨Nat.zero_le _, Nat.zero_le _⟩) (fun v9 H9 L4 hq9 hL4 => ?_)
  obtain ⟨rfl, w9, hW9, e9, o9⟩ := hq9
  refine W.eq (g2 := F0 m 18 ls [.int (kq_z (decide (¬ v (o + 2 + kx3 a) % kx_m d = 0)))]) rfl ?_
  exact W.zret hx hb hret (by unfold kq_z; split <;> rfl) (fun t ht _ => ⟨_, rfl, rfl, w9, by rw [ht]; exact hW9, e9, o9⟩) (t_lL (free := (fun q => q = o + 2 + kx3 r ∨ q = kx_h o d + 1 ∨ q = kx_h o d + 2 ∨ q = kx_h o d + 3 ∨ q = kx_h o d + 4 ∨ q = kx_h o d + 5)) (t_lL (free := (fun q => q = o + 2 + kx3 r ∨ q = kx_h o d + 1 ∨ q = kx_h o d + 2 ∨ q = kx_h o d + 3 ∨ q = kx_h o d + 4 ∨ q = kx_h o d + 5)) (t_lL (free := (fun q => q = o + 2 + kx3 r ∨ q = kx_h o d + 1 ∨ q = kx_h o d + 2 ∨ q = kx_h o d + 3 ∨ q = kx_h o d + 4 ∨ q = kx_h o d + 5)) (t_lL (free := (fun q => q = o + 2 + kx3 r ∨ q = kx_h o d + 1 ∨ q = kx_h o d + 2 ∨ q = kx_h o d + 3 ∨ q = kx_h o d + 4 ∨ q = kx_h o d + 5)) (fun q h => by cases h) (fun q z => (hL1 q z).elim)) (fun q z => (hL2 q z).elim)) (fun q z => (hL3 q z).elim)) hL4) d_Ke_invert_18
theorem d_Ke_root_0 : decode b_Ke_root 0 = .ok (.aload_n 0, 1) := by decide +kernel
theorem d_Ke_root_1 : decode b_Ke_root 1 = .ok (.getfield 51, 3) := by decide +kernel
theorem d_Ke_root_4 : decode b_Ke_root 4 = .ok (.aload_n 0, 1) := by decide +kernel
theorem d_Ke_root_5 : decode b_Ke_root 5 = .ok (.iload_n 1, 1) := by decide +kernel
theorem d_Ke_root_6 : decode b_Ke_root 6 = .ok (.invokevirtual 55, 3) := by decide +kernel
theorem d_Ke_root_9 : decode b_Ke_root 9 = .ok (.aload_n 0, 1) := by decide +kernel
theorem d_Ke_root_10 : decode b_Ke_root 10 = .ok (.iload_n 2, 1) := by decide +kernel
theorem d_Ke_root_11 : decode b_Ke_root 11 = .ok (.invokevirtual 55, 3) := by decide +kernel
theorem d_Ke_root_14 : decode b_Ke_root 14 = .ok (.invokevirtual 79, 3) := by decide +kernel
theorem d_Ke_root_17 : decode b_Ke_root 17 = .ok (.ireturn, 1) := by decide +kernel
set_option maxHeartbeats 4000000 in
set_option maxRecDepth 100000 in
theorem c_Ke_root (l : Launch) (E : kr_E) (A : Nat → Nat) (o : Nat) (bs : Nat → Bool) (v : Nat → Nat) (H : Heap) (hE : kr_ok E) (hA : kr_A E A) (hO : kr_O E A o bs) (hW : kr_W E v H) (r a : Int32) : Met l y_Ke_root w_Ke_root ({ frames := 5, cells := 0, slots := 0, locals := 121 }) (kq_P [.ref o, .int r, .int a] H (kr_K E A o)) (kq_Q (fun o1 H1 => o1 = some (.int (kq_z (decide (kc_root (v (o + 2 + kx3 a)) * kc_root (v (o + 2 + kx3 a)) % kP = v (o + 2 + kx3 a) % kP)))) ∧ ∃ w : Nat → Nat, kr_W E w H1 ∧ w (o + 2 + kx3 r) = (if kc_root (v (o + 2 + kx3 a)) * kc_root (v (o + 2 + kx3 a)) % kP = v (o + 2 + kx3 a) % kP then kc_even (kc_root (v (o + 2 + kx3 a))) else v (o + 2 + kx3 r)) ∧ ∀ q, q ≠ o + 2 + kx3 r → ¬ kr_fr (o + 19) (o + 33) q → w q = v q)) 0 0 (fun q => q = o + 2 + kx3 r ∨ kr_fr (o + 19) (o + 33) q) := by
  refine Met.ofW (cc := b_Ke_root) (maxL := 3) (ret := (some .boolean)) (by decide) rfl ?_
  intro p e s m args below meth c s₁ B0 hml hv
  obtain ⟨rfl, hH, hKK⟩ := hv
  have hx := B0.exec
  have hb := B0.bytes
  have hret := B0.returns
  have hts := atoms_spec (ws := w_Ke_root) B0.pre
  have hown : s.vm.findClass R_Ke = some m.cls := findClass_of_methodNamed B0.named
  have hlocks := B0.notSynchronized
  rw [hH]
  have hl := lv_entry ([.ref o, .int r, .int a]) (n := 3) (Nat.le_of_ble_eq_true rfl)
  rw [lg_entry_eq]
  generalize (lg_sl ([.ref o, .int r, .int a]) ++ List.replicate (3 - (lg_sl ([.ref o, .int r, .int a])).length) Slot.unset).toArray = ls at hl ⊢
  have hl : lv_has ls 3 [(0, .ref o), (1, .int r), (2, .int a)] := hl
  have hB := hKK.1.1
  have hT := kr_T hE hB
  have hK := hB.1
  have hOo := kr_obj hW hO.1 hO.2.1
  have hro := hO.2.2.2.2.2.2.1 (kx3 r) (kx3_lt r)
  have hao := hO.2.2.2.2.2.2.1 (kx3 a) (kx3_lt a)
  have hV := hO.2.2.2.2.2.1
  have hOc := kr_obj hW hV.1 hV.2.1
  have l1 := kx3_lt r
  have l2 := kx3_lt a
  refine lv_aload_n hx hb d_Ke_root_0 rfl (lv_at hl 0 rfl) ?_
  refine kq_get hx hb hts kt_F_Ke hown hK hOo rfl 4 (by decide) kt_w140 rfl d_Ke_root_1 ?_
  refine lv_aload_n hx hb d_Ke_root_4 rfl (lv_at hl 0 rfl) ?_
  refine lv_iload_n hx hb d_Ke_root_5 rfl (lv_at hl 1 rfl) ?_
  refine kq_call (va_runV (As := [.int r]) (rest := [.ref (o + 33)]) ⟨hx, hb, hml, hown, hts⟩ (c_Ke_register l E A o bs v H hE hA hO hW r) (cwV 1 hts (kt_inV kt_w159 kt_w156 kt_w158 kt_s0 kt_w1) rfl rfl rfl (by decide +kernel) ⟨Nat.le_of_ble_eq_true rfl, Nat.le_of_ble_eq_true rfl⟩) (kq_p2V (kr_K_s2 E A o) (hKK) (kq_recv hKK.1.1.1 hOo rfl)) rfl rfl hl.1 rfl (lv_room (Nat.le_of_ble_eq_true rfl)) d_Ke_root_6 ⟨Nat.zero_le _, Nat.zero_le _⟩) (fun v9 H9 L1 hq9 hL1 => ?_)
  obtain ⟨rfl, e9⟩ := hq9
  rw [e9]
  clear e9
  refine W.eq (g2 := F0 m 9 ls [.ref (o + 2 + kx3 r), .ref (o + 33)]) rfl ?_
  refine lv_aload_n hx hb d_Ke_root_9 rfl (lv_at hl 0 rfl) ?_
  refine lv_iload_n hx hb d_Ke_root_10 rfl (lv_at hl 2 rfl) ?_
  refine kq_call (va_runV (As := [.int a]) (rest := [.ref (o + 2 + kx3 r), .ref (o + 33)]) ⟨hx, hb, hml, hown, hts⟩ (c_Ke_register l E A o bs v H hE hA hO hW a) (cwV 1 hts (kt_inV kt_w159 kt_w156 kt_w158 kt_s0 kt_w1) rfl rfl rfl (by decide +kernel) ⟨Nat.le_of_ble_eq_true rfl, Nat.le_of_ble_eq_true rfl⟩) (kq_p2V (kr_K_s2 E A o) (hKK) (kq_recv hKK.1.1.1 hOo rfl)) rfl rfl hl.1 rfl (lv_room (Nat.le_of_ble_eq_true rfl)) d_Ke_root_11 ⟨Nat.zero_le _, Nat.zero_le _⟩) (fun v9 H9 L2 hq9 hL2 => ?_)
  obtain ⟨rfl, e9⟩ := hq9
  rw [e9]
  clear e9
  refine W.eq (g2 := F0 m 14 ls [.ref (o + 2 + kx3 a), .ref (o + 2 + kx3 r), .ref (o + 33)]) rfl ?_
  refine kq_call (va_runV (As := [.ref (o + 2 + kx3 r), .ref (o + 2 + kx3 a)]) (rest := []) ⟨hx, hb, hml, hown, hts⟩ (c_Cu_evenRoot l E A (o + 19) (A 0) (A 6) 2 kG_P (o + 33) v H hE hA hO.2.2.2.1 hV hW (o + 2 + kx3 r) (o + 2 + kx3 a) hro hao (Or.inl (by omega)) (Or.inl (by omega))) (cwV 2 hts (kt_inV kt_w254 kt_w251 kt_w252 kt_w253 kt_w4) rfl rfl rfl (by decide +kernel) ⟨Nat.le_of_ble_eq_true rfl, Nat.le_of_ble_eq_true rfl⟩) (kq_p2V (kr_C_s2 E A) (hKK.1) (kq_recv hB.1 hOc rfl)) rfl rfl hl.1 rfl (lv_room (Nat.le_of_ble_eq_true rfl)) d_Ke_root_14 ⟨Nat.zero_le _, Nat.zero_le _⟩) (fun v9 H9 L3 hq9 hL3 => ?_)
  obtain ⟨rfl, w9, hW9, e9, o9⟩ := hq9
  refine W.eq (g2 := F0 m 17 ls [.int (kq_z (decide (kc_root (v (o + 2 + kx3 a)) * kc_root (v (o + 2 + kx3 a)) % kP = v (o + 2 + kx3 a) % kP)))]) rfl ?_
  exact W.zret hx hb hret (by unfold kq_z; split <;> rfl) (fun t ht _ => ⟨_, rfl, rfl, w9, by rw [ht]; exact hW9, e9, o9⟩) (t_lL (free := (fun q => q = o + 2 + kx3 r ∨ kr_fr (o + 19) (o + 33) q)) (t_lL (free := (fun q => q = o + 2 + kx3 r ∨ kr_fr (o + 19) (o + 33) q)) (t_lL (free := (fun q => q = o + 2 + kx3 r ∨ kr_fr (o + 19) (o + 33) q)) (fun q h => by cases h) (fun q z => (hL1 q z).elim)) (fun q z => (hL2 q z).elim)) hL3) d_Ke_root_17
end
section
/-! KeyCurve: take, same, base, none, point, lift, plus, times (own rows). -/
section KGS
variable {p : Program} {l : Launch} {e : Env} {R : Room} {s : State} {m : MethodId} {args : Array Value} {below : List Frame} {meth : Method} {c : Code} {H : Heap} {locs : List Loc} {cells slots : Nat} {Q : State → Prop}
variable {cc : ByteArray} {pc : Nat} {ls : Array Slot} {rest : List Value}
theorem kq_gets {y : Cond} {C n d own : String} {v : Value} {index : Nat} {A : Nat → Prop} (hexec : p.tables.exec = Jvm.exec) (hb : c.code = cc) (hts : ∀ w ∈ y :: kt_all, w.before args s = true) (hZ : va_Z C n d v A s H) (hown : s.vm.findClass own = some m.cls) (hlink : Cond.fieldLink own index C n d ∈ kt_all) (hdg : decode cc pc = .ok (.getstatic index, 3))
    (kk : W p l e R s m args below meth c H locs cells slots Q (F0 m (pc + 3) ls (v :: rest))) : W p l e R s m args below meth c H locs cells slots Q (F0 m pc ls rest) := by
  obtain ⟨cf, kf, fi, f, a, cell, h1, h2, h3, h4, h5, h6, h7, h8⟩ := hZ
  exact W.gets hexec hb hown (hts _ (List.mem_cons_of_mem _ hlink)) h1 h2 h3 h4 h5 (fun e => by rw [e] at h6; cases h6) h7 rfl hdg kk
end KGS
theorem d_Ke_take_0 : decode b_Ke_take 0 = .ok (.aload_n 0, 1) := by decide +kernel
theorem d_Ke_take_1 : decode b_Ke_take 1 = .ok (.iload_n 2, 1) := by decide +kernel
theorem d_Ke_take_2 : decode b_Ke_take 2 = .ok (.invokevirtual 82, 3) := by decide +kernel
theorem d_Ke_take_5 : decode b_Ke_take 5 = .ok (.astore 4, 2) := by decide +kernel
theorem d_Ke_take_7 : decode b_Ke_take 7 = .ok (.aload 4, 2) := by decide +kernel
theorem d_Ke_take_9 : decode b_Ke_take 9 = .ok (.getfield 96, 3) := by decide +kernel
theorem d_Ke_take_12 : decode b_Ke_take 12 = .ok (.ifCond .eq 5, 3) := by decide +kernel
theorem d_Ke_take_15 : decode b_Ke_take 15 = .ok (.iconst 0, 1) := by decide +kernel
theorem d_Ke_take_16 : decode b_Ke_take 16 = .ok (.ireturn, 1) := by decide +kernel
theorem d_Ke_take_17 : decode b_Ke_take 17 = .ok (.aload_n 0, 1) := by decide +kernel
theorem d_Ke_take_18 : decode b_Ke_take 18 = .ok (.iload_n 1, 1) := by decide +kernel
theorem d_Ke_take_19 : decode b_Ke_take 19 = .ok (.invokevirtual 55, 3) := by decide +kernel
theorem d_Ke_take_22 : decode b_Ke_take 22 = .ok (.iload_n 3, 1) := by decide +kernel
theorem d_Ke_take_23 : decode b_Ke_take 23 = .ok (.ifCond .eq 11, 3) := by decide +kernel
theorem d_Ke_take_26 : decode b_Ke_take 26 = .ok (.aload 4, 2) := by decide +kernel
theorem d_Ke_take_28 : decode b_Ke_take 28 = .ok (.getfield 121, 3) := by decide +kernel
theorem d_Ke_take_31 : decode b_Ke_take 31 = .ok (.goto 8, 3) := by decide +kernel
theorem d_Ke_take_34 : decode b_Ke_take 34 = .ok (.aload 4, 2) := by decide +kernel
theorem d_Ke_take_36 : decode b_Ke_take 36 = .ok (.getfield 124, 3) := by decide +kernel
theorem d_Ke_take_39 : decode b_Ke_take 39 = .ok (.invokestatic 127, 3) := by decide +kernel
theorem d_Ke_take_42 : decode b_Ke_take 42 = .ok (.iconst 1, 1) := by decide +kernel
theorem d_Ke_take_43 : decode b_Ke_take 43 = .ok (.ireturn, 1) := by decide +kernel
set_option maxHeartbeats 4000000 in
set_option maxRecDepth 100000 in
theorem c_Ke_take (l : Launch) (E : kr_E) (A : Nat → Nat) (o : Nat) (bs : Nat → Bool) (v : Nat → Nat) (H : Heap) (hE : kr_ok E) (hA : kr_A E A) (hO : kr_O E A o bs) (hW : kr_W E v H) (r q : Int32) (d : Bool) : Met l y_Ke_take w_Ke_take ({ frames := 2, cells := 0, slots := 0, locals := 41 }) (kq_P [.ref o, .int r, .int q, .int (kq_z d)] H (kr_K E A o)) (kq_Q (fun o1 H1 => o1 = some (.int (kq_z (!bs (kx3 q)))) ∧ ∃ w : Nat → Nat, kr_W E w H1 ∧ w (o + 2 + kx3 r) = (if bs (kx3 q) = true then v (o + 2 + kx3 r) else if d = true then v (o + 7 + 3 * kx3 q + 2) else v (o + 7 + 3 * kx3 q + 1)) ∧ ∀ x, x ≠ o + 2 + kx3 r → w x = v x)) 0 0 (fun x => x = o + 2 + kx3 r) := by
  refine Met.ofW (cc := b_Ke_take) (maxL := 5) (ret := (some .boolean)) (by decide) rfl ?_
  intro p e s m args below meth c s₁ B0 hml hv
  obtain ⟨rfl, hH, hKK⟩ := hv
  have hx := B0.exec
  have hb := B0.bytes
  have hret := B0.returns
  have hts := atoms_spec (ws := w_Ke_take) B0.pre
  have hown : s.vm.findClass R_Ke = some m.cls := findClass_of_methodNamed B0.named
  have hlocks := B0.notSynchronized
  rw [hH]
  have hl := lv_entry ([.ref o, .int r, .int q, .int (kq_z d)]) (n := 5) (Nat.le_of_ble_eq_true rfl)
  rw [lg_entry_eq]
  generalize (lg_sl ([.ref o, .int r, .int q, .int (kq_z d)]) ++ List.replicate (5 - (lg_sl ([.ref o, .int r, .int q, .int (kq_z d)])).length) Slot.unset).toArray = ls at hl ⊢
  have hl : lv_has ls 5 [(0, .ref o), (1, .int r), (2, .int q), (3, .int (kq_z d))] := hl
  have hB := hKK.1.1
  have hT := kr_T hE hB
  have hK := hB.1
  have hOo := kr_obj hW hO.1 hO.2.1
  have hro := hO.2.2.2.2.2.2.1 (kx3 r) (kx3_lt r)
  have hS := hO.2.2.2.2.2.2.2 (kx3 q) (kx3_lt q)
  have hOs := kr_obj hW hS.1 hS.2.1
  have hsx := kr_src hE hW hB (Or.inl hS.2.2.1)
  have hlx := kr_lt hE hW (Or.inl hS.2.2.1)
  have hsy := kr_src hE hW hB (Or.inl hS.2.2.2)
  have hly := kr_lt hE hW (Or.inl hS.2.2.2)
  refine lv_aload_n hx hb d_Ke_take_0 rfl (lv_at hl 0 rfl) ?_
  refine lv_iload_n hx hb d_Ke_take_1 rfl (lv_at hl 2 rfl) ?_
  refine kq_call (va_runV (As := [.int q]) (rest := []) ⟨hx, hb, hml, hown, hts⟩ (c_Ke_spot l E A o bs v H hE hA hO hW q) (cwV 1 hts (kt_inV kt_w276 kt_w273 kt_w275 kt_s5 kt_w1) rfl rfl rfl (by decide +kernel) ⟨Nat.le_of_ble_eq_true rfl, Nat.le_of_ble_eq_true rfl⟩) (kq_p2V (kr_K_s2 E A o) (hKK) (kq_recv hKK.1.1.1 hOo rfl)) rfl rfl hl.1 rfl (lv_room (Nat.le_of_ble_eq_true rfl)) d_Ke_take_2 ⟨Nat.zero_le _, Nat.zero_le _⟩) (fun v9 H9 L1 hq9 hL1 => ?_)
  obtain ⟨rfl, e9⟩ := hq9
  rw [e9]
  clear e9
  refine W.eq (g2 := F0 m 5 ls [.ref (o + 7 + 3 * kx3 q)]) rfl ?_
  refine lv_astore hx hb d_Ke_take_5 hl (by decide) rfl (fun ls hl => ?_)
  have hl : lv_has ls 5 [(4, .ref (o + 7 + 3 * kx3 q)), (0, .ref o), (1, .int r), (2, .int q), (3, .int (kq_z d))] := hl
  refine lv_aload hx hb d_Ke_take_7 (lv_at hl 0 rfl) ?_
  refine kq_get hx hb hts kt_F_Sp hown hK hOs rfl 2 (by decide) kt_w34 rfl d_Ke_take_9 ?_
  refine lv_if_eq hx hb d_Ke_take_12 rfl (fun hc0 => ?_) (fun hc0 => ?_)
  · have hb0 := kq_z_b0 hc0
    refine lv_aload_n hx hb d_Ke_take_17 rfl (lv_at hl 1 rfl) ?_
    refine lv_iload_n hx hb d_Ke_take_18 rfl (lv_at hl 2 rfl) ?_
    refine kq_call (va_runV (As := [.int r]) (rest := []) ⟨hx, hb, hml, hown, hts⟩ (c_Ke_register l E A o bs v H hE hA hO hW r) (cwV 1 hts (kt_inV kt_w159 kt_w156 kt_w158 kt_s0 kt_w1) rfl rfl rfl (by decide +kernel) ⟨Nat.le_of_ble_eq_true rfl, Nat.le_of_ble_eq_true rfl⟩) (kq_p2V (kr_K_s2 E A o) (hKK) (kq_recv hKK.1.1.1 hOo rfl)) rfl rfl hl.1 rfl (lv_room (Nat.le_of_ble_eq_true rfl)) d_Ke_take_19 ⟨Nat.zero_le _, Nat.zero_le _⟩) (fun v9 H9 L2 hq9 hL2 => ?_)
    obtain ⟨rfl, e9⟩ := hq9
    rw [e9]
    clear e9
    refine W.eq (g2 := F0 m 22 ls [.ref (o + 2 + kx3 r)]) rfl ?_
    refine lv_iload_n hx hb d_Ke_take_22 rfl (lv_at hl 4 rfl) ?_
    refine lv_if_eq hx hb d_Ke_take_23 rfl (fun hd0 => ?_) (fun hd0 => ?_)
    · have hd := kq_z_b0 hd0
      refine lv_aload hx hb d_Ke_take_34 (lv_at hl 0 rfl) ?_
      refine kq_get hx hb hts kt_F_Sp hown hK hOs rfl 0 (by decide) kt_w28 rfl d_Ke_take_36 ?_
      refine kq_call (va_runS (As := [.ref (o + 2 + kx3 r), .ref (o + 7 + 3 * kx3 q + 1)]) (rest := []) ⟨hx, hb, hml, hown, hts⟩ (c_Wo_copy l (kr_c E) H (o + 2 + kx3 r) (o + 7 + 3 * kx3 q + 1) (v (o + 2 + kx3 r)) (v (o + 7 + 3 * kx3 q + 1)) (kr_row hW hro)) (va_cwS 2 hts (kt_inS kt_w222 kt_w362 kt_w221 kt_w6) rfl rfl rfl (by decide +kernel) ⟨Nat.le_of_ble_eq_true rfl, Nat.le_of_ble_eq_true rfl⟩) (kq_preS (kq_st_A.both kq_st_r) (⟨hT, hsx⟩)) rfl rfl hl.1 rfl (lv_room (Nat.le_of_ble_eq_true rfl)) d_Ke_take_39 ⟨Nat.zero_le _, Nat.zero_le _⟩) (fun v9 H9 L3 hq9 hL3 => ?_)
      obtain ⟨rfl, rfl⟩ := hq9
      refine W.eq (g2 := F0 m 42 ls []) rfl ?_
      refine lv_iconst (v := nI 1) hx hb d_Ke_take_42 (by decide) ?_
      exact W.zret hx hb hret rfl (fun t ht _ => ⟨_, rfl, by rw [hb0]; rfl, _, by rw [ht]; exact kr_put hE hW hro hlx, by rw [kq_up_at, hb0, hd]; rfl, fun x hx => kq_up_ne hx⟩) (t_lL (free := (fun x => x = o + 2 + kx3 r)) (t_lL (free := (fun x => x = o + 2 + kx3 r)) (t_lL (free := (fun x => x = o + 2 + kx3 r)) (fun q h => by cases h) (fun q z => (hL1 q z).elim)) (fun q z => (hL2 q z).elim)) hL3) d_Ke_take_43
    · have hd := kq_z_b1 hd0
      refine lv_aload hx hb d_Ke_take_26 (lv_at hl 0 rfl) ?_
      refine kq_get hx hb hts kt_F_Sp hown hK hOs rfl 1 (by decide) kt_w31 rfl d_Ke_take_28 ?_
      refine lv_goto hx hb d_Ke_take_31 rfl ?_
      refine kq_call (va_runS (As := [.ref (o + 2 + kx3 r), .ref (o + 7 + 3 * kx3 q + 2)]) (rest := []) ⟨hx, hb, hml, hown, hts⟩ (c_Wo_copy l (kr_c E) H (o + 2 + kx3 r) (o + 7 + 3 * kx3 q + 2) (v (o + 2 + kx3 r)) (v (o + 7 + 3 * kx3 q + 2)) (kr_row hW hro)) (va_cwS 2 hts (kt_inS kt_w222 kt_w362 kt_w221 kt_w6) rfl rfl rfl (by decide +kernel) ⟨Nat.le_of_ble_eq_true rfl, Nat.le_of_ble_eq_true rfl⟩) (kq_preS (kq_st_A.both kq_st_r) (⟨hT, hsy⟩)) rfl rfl hl.1 rfl (lv_room (Nat.le_of_ble_eq_true rfl)) d_Ke_take_39 ⟨Nat.zero_le _, Nat.zero_le _⟩) (fun v9 H9 L3 hq9 hL3 => ?_)
      obtain ⟨rfl, rfl⟩ := hq9
      refine W.eq (g2 := F0 m 42 ls []) rfl ?_
      refine lv_iconst (v := nI 1) hx hb d_Ke_take_42 (by decide) ?_
      exact W.zret hx hb hret rfl (fun t ht _ => ⟨_, rfl, by rw [hb0]; rfl, _, by rw [ht]; exact kr_put hE hW hro hly, by rw [kq_up_at, hb0, hd]; rfl, fun x hx => kq_up_ne hx⟩) (t_lL (free := (fun x => x = o + 2 + kx3 r)) (t_lL (free := (fun x => x = o + 2 + kx3 r)) (t_lL (free := (fun x => x = o + 2 + kx3 r)) (fun q h => by cases h) (fun q z => (hL1 q z).elim)) (fun q z => (hL2 q z).elim)) hL3) d_Ke_take_43
  · have hb0 := kq_z_b1 hc0
    refine lv_iconst (v := nI 0) hx hb d_Ke_take_15 (by decide) ?_
    exact W.zret hx hb hret rfl (fun t ht _ => ⟨_, rfl, by rw [hb0]; rfl, v, by rw [ht]; exact hW, by rw [if_pos hb0], fun _ _ => rfl⟩) (t_lL (free := (fun x => x = o + 2 + kx3 r)) (fun q h => by cases h) (fun q z => (hL1 q z).elim)) d_Ke_take_16
theorem d_Ke_same_0 : decode b_Ke_same 0 = .ok (.aload_n 0, 1) := by decide +kernel
theorem d_Ke_same_1 : decode b_Ke_same 1 = .ok (.iload_n 1, 1) := by decide +kernel
theorem d_Ke_same_2 : decode b_Ke_same 2 = .ok (.invokevirtual 82, 3) := by decide +kernel
theorem d_Ke_same_5 : decode b_Ke_same 5 = .ok (.astore_n 3, 1) := by decide +kernel
theorem d_Ke_same_6 : decode b_Ke_same 6 = .ok (.aload_n 0, 1) := by decide +kernel
theorem d_Ke_same_7 : decode b_Ke_same 7 = .ok (.iload_n 2, 1) := by decide +kernel
theorem d_Ke_same_8 : decode b_Ke_same 8 = .ok (.invokevirtual 82, 3) := by decide +kernel
theorem d_Ke_same_11 : decode b_Ke_same 11 = .ok (.astore 4, 2) := by decide +kernel
theorem d_Ke_same_13 : decode b_Ke_same 13 = .ok (.aload_n 3, 1) := by decide +kernel
theorem d_Ke_same_14 : decode b_Ke_same 14 = .ok (.getfield 96, 3) := by decide +kernel
theorem d_Ke_same_17 : decode b_Ke_same 17 = .ok (.ifCond .ne 11, 3) := by decide +kernel
theorem d_Ke_same_20 : decode b_Ke_same 20 = .ok (.aload 4, 2) := by decide +kernel
theorem d_Ke_same_22 : decode b_Ke_same 22 = .ok (.getfield 96, 3) := by decide +kernel
theorem d_Ke_same_25 : decode b_Ke_same 25 = .ok (.ifCond .eq 24, 3) := by decide +kernel
theorem d_Ke_same_28 : decode b_Ke_same 28 = .ok (.aload_n 3, 1) := by decide +kernel
theorem d_Ke_same_29 : decode b_Ke_same 29 = .ok (.getfield 96, 3) := by decide +kernel
theorem d_Ke_same_32 : decode b_Ke_same 32 = .ok (.ifCond .eq 15, 3) := by decide +kernel
theorem d_Ke_same_35 : decode b_Ke_same 35 = .ok (.aload 4, 2) := by decide +kernel
theorem d_Ke_same_37 : decode b_Ke_same 37 = .ok (.getfield 96, 3) := by decide +kernel
theorem d_Ke_same_40 : decode b_Ke_same 40 = .ok (.ifCond .eq 7, 3) := by decide +kernel
theorem d_Ke_same_43 : decode b_Ke_same 43 = .ok (.iconst 1, 1) := by decide +kernel
theorem d_Ke_same_44 : decode b_Ke_same 44 = .ok (.goto 4, 3) := by decide +kernel
theorem d_Ke_same_47 : decode b_Ke_same 47 = .ok (.iconst 0, 1) := by decide +kernel
theorem d_Ke_same_48 : decode b_Ke_same 48 = .ok (.ireturn, 1) := by decide +kernel
theorem d_Ke_same_49 : decode b_Ke_same 49 = .ok (.aload_n 3, 1) := by decide +kernel
theorem d_Ke_same_50 : decode b_Ke_same 50 = .ok (.getfield 124, 3) := by decide +kernel
theorem d_Ke_same_53 : decode b_Ke_same 53 = .ok (.aload 4, 2) := by decide +kernel
theorem d_Ke_same_55 : decode b_Ke_same 55 = .ok (.getfield 124, 3) := by decide +kernel
theorem d_Ke_same_58 : decode b_Ke_same 58 = .ok (.invokestatic 132, 3) := by decide +kernel
theorem d_Ke_same_61 : decode b_Ke_same 61 = .ok (.ifCond .eq 22, 3) := by decide +kernel
theorem d_Ke_same_64 : decode b_Ke_same 64 = .ok (.aload_n 3, 1) := by decide +kernel
theorem d_Ke_same_65 : decode b_Ke_same 65 = .ok (.getfield 121, 3) := by decide +kernel
theorem d_Ke_same_68 : decode b_Ke_same 68 = .ok (.aload 4, 2) := by decide +kernel
theorem d_Ke_same_70 : decode b_Ke_same 70 = .ok (.getfield 121, 3) := by decide +kernel
theorem d_Ke_same_73 : decode b_Ke_same 73 = .ok (.invokestatic 132, 3) := by decide +kernel
theorem d_Ke_same_76 : decode b_Ke_same 76 = .ok (.ifCond .eq 7, 3) := by decide +kernel
theorem d_Ke_same_79 : decode b_Ke_same 79 = .ok (.iconst 1, 1) := by decide +kernel
theorem d_Ke_same_80 : decode b_Ke_same 80 = .ok (.goto 4, 3) := by decide +kernel
theorem d_Ke_same_83 : decode b_Ke_same 83 = .ok (.iconst 0, 1) := by decide +kernel
theorem d_Ke_same_84 : decode b_Ke_same 84 = .ok (.ireturn, 1) := by decide +kernel
set_option maxHeartbeats 4000000 in
set_option maxRecDepth 100000 in
theorem c_Ke_same (l : Launch) (E : kr_E) (A : Nat → Nat) (o : Nat) (bs : Nat → Bool) (v : Nat → Nat) (H : Heap) (hE : kr_ok E) (hA : kr_A E A) (hO : kr_O E A o bs) (hW : kr_W E v H) (a b : Int32) : Met l y_Ke_same w_Ke_same ({ frames := 1, cells := 0, slots := 0, locals := 22 }) (kq_P [.ref o, .int a, .int b] H (kr_K E A o)) (kq_Q (fun o1 H1 => o1 = some (.int (kq_z (if (bs (kx3 a) || bs (kx3 b)) = true then (bs (kx3 a) && bs (kx3 b)) else decide (v (o + 7 + 3 * kx3 a + 1) = v (o + 7 + 3 * kx3 b + 1) ∧ v (o + 7 + 3 * kx3 a + 2) = v (o + 7 + 3 * kx3 b + 2))))) ∧ kr_W E v H1)) 0 0 (fun _ => False) := by
  refine Met.ofW (cc := b_Ke_same) (maxL := 5) (ret := (some .boolean)) (by decide) rfl ?_
  intro p e s m args below meth c s₁ B0 hml hv
  obtain ⟨rfl, hH, hKK⟩ := hv
  have hx := B0.exec
  have hb := B0.bytes
  have hret := B0.returns
  have hts := atoms_spec (ws := w_Ke_same) B0.pre
  have hown : s.vm.findClass R_Ke = some m.cls := findClass_of_methodNamed B0.named
  have hlocks := B0.notSynchronized
  rw [hH]
  have hl := lv_entry ([.ref o, .int a, .int b]) (n := 5) (Nat.le_of_ble_eq_true rfl)
  rw [lg_entry_eq]
  generalize (lg_sl ([.ref o, .int a, .int b]) ++ List.replicate (5 - (lg_sl ([.ref o, .int a, .int b])).length) Slot.unset).toArray = ls at hl ⊢
  have hl : lv_has ls 5 [(0, .ref o), (1, .int a), (2, .int b)] := hl
  have hB := hKK.1.1
  have hT := kr_T hE hB
  have hK := hB.1
  have hOo := kr_obj hW hO.1 hO.2.1
  have hSa := hO.2.2.2.2.2.2.2 (kx3 a) (kx3_lt a)
  have hSb := hO.2.2.2.2.2.2.2 (kx3 b) (kx3_lt b)
  have hOa := kr_obj hW hSa.1 hSa.2.1
  have hOb := kr_obj hW hSb.1 hSb.2.1
  have hs1 := kr_src hE hW hB (Or.inl hSa.2.2.1)
  have hl1 := kr_lt hE hW (Or.inl hSa.2.2.1)
  have hs2 := kr_src hE hW hB (Or.inl hSa.2.2.2)
  have hl2 := kr_lt hE hW (Or.inl hSa.2.2.2)
  have hs3 := kr_src hE hW hB (Or.inl hSb.2.2.1)
  have hl3 := kr_lt hE hW (Or.inl hSb.2.2.1)
  have hs4 := kr_src hE hW hB (Or.inl hSb.2.2.2)
  have hl4 := kr_lt hE hW (Or.inl hSb.2.2.2)
  refine lv_aload_n hx hb d_Ke_same_0 rfl (lv_at hl 0 rfl) ?_
  refine lv_iload_n hx hb d_Ke_same_1 rfl (lv_at hl 1 rfl) ?_
  refine kq_call (va_runV (As := [.int a]) (rest := []) ⟨hx, hb, hml, hown, hts⟩ (c_Ke_spot l E A o bs v H hE hA hO hW a) (cwV 1 hts (kt_inV kt_w276 kt_w273 kt_w275 kt_s5 kt_w1) rfl rfl rfl (by decide +kernel) ⟨Nat.le_of_ble_eq_true rfl, Nat.le_of_ble_eq_true rfl⟩) (kq_p2V (kr_K_s2 E A o) (hKK) (kq_recv hKK.1.1.1 hOo rfl)) rfl rfl hl.1 rfl (lv_room (Nat.le_of_ble_eq_true rfl)) d_Ke_same_2 ⟨Nat.zero_le _, Nat.zero_le _⟩) (fun v9 H9 L1 hq9 hL1 => ?_)
  obtain ⟨rfl, e9⟩ := hq9
  rw [e9]
  clear e9
  refine W.eq (g2 := F0 m 5 ls [.ref (o + 7 + 3 * kx3 a)]) rfl ?_
  refine lv_astore_n hx hb d_Ke_same_5 rfl hl (by decide) rfl (fun ls hl => ?_)
  have hl : lv_has ls 5 [(3, .ref (o + 7 + 3 * kx3 a)), (0, .ref o), (1, .int a), (2, .int b)] := hl
  refine lv_aload_n hx hb d_Ke_same_6 rfl (lv_at hl 1 rfl) ?_
  refine lv_iload_n hx hb d_Ke_same_7 rfl (lv_at hl 3 rfl) ?_
  refine kq_call (va_runV (As := [.int b]) (rest := []) ⟨hx, hb, hml, hown, hts⟩ (c_Ke_spot l E A o bs v H hE hA hO hW b) (cwV 1 hts (kt_inV kt_w276 kt_w273 kt_w275 kt_s5 kt_w1) rfl rfl rfl (by decide +kernel) ⟨Nat.le_of_ble_eq_true rfl, Nat.le_of_ble_eq_true rfl⟩) (kq_p2V (kr_K_s2 E A o) (hKK) (kq_recv hKK.1.1.1 hOo rfl)) rfl rfl hl.1 rfl (lv_room (Nat.le_of_ble_eq_true rfl)) d_Ke_same_8 ⟨Nat.zero_le _, Nat.zero_le _⟩) (fun v9 H9 L2 hq9 hL2 => ?_)
  obtain ⟨rfl, e9⟩ := hq9
  rw [e9]
  clear e9
  refine W.eq (g2 := F0 m 11 ls [.ref (o + 7 + 3 * kx3 b)]) rfl ?_
  have hlc2 : ∀ q ∈ (([] : List Loc) ++ L1) ++ L2, False := (t_lL (free := fun _ => False) (t_lL (free := fun _ => False) (fun q h => by cases h) (fun q z => (hL1 q z).elim)) (fun q z => (hL2 q z).elim))
  refine lv_astore hx hb d_Ke_same_11 hl (by decide) rfl (fun ls hl => ?_)
  have hl : lv_has ls 5 [(4, .ref (o + 7 + 3 * kx3 b)), (3, .ref (o + 7 + 3 * kx3 a)), (0, .ref o), (1, .int a), (2, .int b)] := hl
  refine lv_aload_n hx hb d_Ke_same_13 rfl (lv_at hl 1 rfl) ?_
  refine kq_get hx hb hts kt_F_Sp hown hK hOa rfl 2 (by decide) kt_w34 rfl d_Ke_same_14 ?_
  refine lv_if_ne hx hb d_Ke_same_17 rfl (fun hc1 => ?_) (fun hc1 => ?_)
  · have ha := kq_z_b1 hc1
    refine lv_aload_n hx hb d_Ke_same_28 rfl (lv_at hl 1 rfl) ?_
    refine kq_get hx hb hts kt_F_Sp hown hK hOa rfl 2 (by decide) kt_w34 rfl d_Ke_same_29 ?_
    refine lv_if_eq hx hb d_Ke_same_32 rfl (fun hc3 => ?_) (fun hc3 => ?_)
    · rw [ha] at hc3
      exact absurd hc3 (by decide)
    · refine lv_aload hx hb d_Ke_same_35 (lv_at hl 0 rfl) ?_
      refine kq_get hx hb hts kt_F_Sp hown hK hOb rfl 2 (by decide) kt_w34 rfl d_Ke_same_37 ?_
      refine lv_if_eq hx hb d_Ke_same_40 rfl (fun hc4 => ?_) (fun hc4 => ?_)
      · have hb0 := kq_z_b0 hc4
        refine lv_iconst (v := nI 0) hx hb d_Ke_same_47 (by decide) ?_
        exact W.zret hx hb hret rfl (fun t ht _ => ⟨_, rfl, by rw [ha, hb0]; rfl, by rw [ht]; exact hW⟩) hlc2 d_Ke_same_48
      · have hb0 := kq_z_b1 hc4
        refine lv_iconst (v := nI 1) hx hb d_Ke_same_43 (by decide) ?_
        refine lv_goto hx hb d_Ke_same_44 rfl ?_
        exact W.zret hx hb hret rfl (fun t ht _ => ⟨_, rfl, by rw [ha, hb0]; rfl, by rw [ht]; exact hW⟩) hlc2 d_Ke_same_48
  · have ha := kq_z_b0 hc1
    refine lv_aload hx hb d_Ke_same_20 (lv_at hl 0 rfl) ?_
    refine kq_get hx hb hts kt_F_Sp hown hK hOb rfl 2 (by decide) kt_w34 rfl d_Ke_same_22 ?_
    refine lv_if_eq hx hb d_Ke_same_25 rfl (fun hc2 => ?_) (fun hc2 => ?_)
    · have hb0 := kq_z_b0 hc2
      refine lv_aload_n hx hb d_Ke_same_49 rfl (lv_at hl 1 rfl) ?_
      refine kq_get hx hb hts kt_F_Sp hown hK hOa rfl 0 (by decide) kt_w28 rfl d_Ke_same_50 ?_
      refine lv_aload hx hb d_Ke_same_53 (lv_at hl 0 rfl) ?_
      refine kq_get hx hb hts kt_F_Sp hown hK hOb rfl 0 (by decide) kt_w28 rfl d_Ke_same_55 ?_
      refine kq_call (va_runS (As := [.ref (o + 7 + 3 * kx3 a + 1), .ref (o + 7 + 3 * kx3 b + 1)]) (rest := []) ⟨hx, hb, hml, hown, hts⟩ (c_Wo_areEqual l H (o + 7 + 3 * kx3 a + 1) (o + 7 + 3 * kx3 b + 1) (v (o + 7 + 3 * kx3 a + 1)) (v (o + 7 + 3 * kx3 b + 1)) hl1 hl3) (va_cwS 2 hts (kt_inS kt_w263 kt_w367 kt_w262 kt_w6) rfl rfl rfl (by decide +kernel) ⟨Nat.le_of_ble_eq_true rfl, Nat.le_of_ble_eq_true rfl⟩) (kq_preS (kq_st_r.both kq_st_r) (⟨hs1, hs3⟩)) rfl rfl hl.1 rfl (lv_room (Nat.le_of_ble_eq_true rfl)) d_Ke_same_58 ⟨Nat.zero_le _, Nat.zero_le _⟩) (fun v9 H9 L3 hq9 hL3 => ?_)
      obtain ⟨rfl, e9⟩ := hq9
      rw [e9]
      clear e9
      refine W.eq (g2 := F0 m 61 ls [.int (kq_z (decide (v (o + 7 + 3 * kx3 a + 1) = v (o + 7 + 3 * kx3 b + 1))))]) rfl ?_
      have hlc3 : ∀ q ∈ ((([] : List Loc) ++ L1) ++ L2) ++ L3, False := t_lL (free := fun _ => False) hlc2 (fun q z => (hL3 q z).elim)
      refine lv_if_eq hx hb d_Ke_same_61 rfl (fun hc3 => ?_) (fun hc3 => ?_)
      · have hn := kq_z_eq.mp hc3
        refine lv_iconst (v := nI 0) hx hb d_Ke_same_83 (by decide) ?_
        have hd : decide (v (o + 7 + 3 * kx3 a + 1) = v (o + 7 + 3 * kx3 b + 1) ∧ v (o + 7 + 3 * kx3 a + 2) = v (o + 7 + 3 * kx3 b + 2)) = false := decide_eq_false (fun q => hn q.1)
        exact W.zret hx hb hret rfl (fun t ht _ => ⟨_, rfl, by rw [ha, hb0, hd]; rfl, by rw [ht]; exact hW⟩) hlc3 d_Ke_same_84
      · have h1 := kq_z_ne.mp hc3
        refine lv_aload_n hx hb d_Ke_same_64 rfl (lv_at hl 1 rfl) ?_
        refine kq_get hx hb hts kt_F_Sp hown hK hOa rfl 1 (by decide) kt_w31 rfl d_Ke_same_65 ?_
        refine lv_aload hx hb d_Ke_same_68 (lv_at hl 0 rfl) ?_
        refine kq_get hx hb hts kt_F_Sp hown hK hOb rfl 1 (by decide) kt_w31 rfl d_Ke_same_70 ?_
        refine kq_call (va_runS (As := [.ref (o + 7 + 3 * kx3 a + 2), .ref (o + 7 + 3 * kx3 b + 2)]) (rest := []) ⟨hx, hb, hml, hown, hts⟩ (c_Wo_areEqual l H (o + 7 + 3 * kx3 a + 2) (o + 7 + 3 * kx3 b + 2) (v (o + 7 + 3 * kx3 a + 2)) (v (o + 7 + 3 * kx3 b + 2)) hl2 hl4) (va_cwS 2 hts (kt_inS kt_w263 kt_w367 kt_w262 kt_w6) rfl rfl rfl (by decide +kernel) ⟨Nat.le_of_ble_eq_true rfl, Nat.le_of_ble_eq_true rfl⟩) (kq_preS (kq_st_r.both kq_st_r) (⟨hs2, hs4⟩)) rfl rfl hl.1 rfl (lv_room (Nat.le_of_ble_eq_true rfl)) d_Ke_same_73 ⟨Nat.zero_le _, Nat.zero_le _⟩) (fun v9 H9 L4 hq9 hL4 => ?_)
        obtain ⟨rfl, e9⟩ := hq9
        rw [e9]
        clear e9
        refine W.eq (g2 := F0 m 76 ls [.int (kq_z (decide (v (o + 7 + 3 * kx3 a + 2) = v (o + 7 + 3 * kx3 b + 2))))]) rfl ?_
        have hlc4 : ∀ q ∈ (((([] : List Loc) ++ L1) ++ L2) ++ L3) ++ L4, False := t_lL (free := fun _ => False) hlc3 (fun q z => (hL4 q z).elim)
        refine lv_if_eq hx hb d_Ke_same_76 rfl (fun hc4 => ?_) (fun hc4 => ?_)
        · have hn := kq_z_eq.mp hc4
          refine lv_iconst (v := nI 0) hx hb d_Ke_same_83 (by decide) ?_
          have hd : decide (v (o + 7 + 3 * kx3 a + 1) = v (o + 7 + 3 * kx3 b + 1) ∧ v (o + 7 + 3 * kx3 a + 2) = v (o + 7 + 3 * kx3 b + 2)) = false := decide_eq_false (fun q => hn q.2)
          exact W.zret hx hb hret rfl (fun t ht _ => ⟨_, rfl, by rw [ha, hb0, hd]; rfl, by rw [ht]; exact hW⟩) hlc4 d_Ke_same_84
        · have h2 := kq_z_ne.mp hc4
          refine lv_iconst (v := nI 1) hx hb d_Ke_same_79 (by decide) ?_
          refine lv_goto hx hb d_Ke_same_80 rfl ?_
          have hd : decide (v (o + 7 + 3 * kx3 a + 1) = v (o + 7 + 3 * kx3 b + 1) ∧ v (o + 7 + 3 * kx3 a + 2) = v (o + 7 + 3 * kx3 b + 2)) = true := decide_eq_true ⟨h1, h2⟩
          exact W.zret hx hb hret rfl (fun t ht _ => ⟨_, rfl, by rw [ha, hb0, hd]; rfl, by rw [ht]; exact hW⟩) hlc4 d_Ke_same_84
    · have hb0 := kq_z_b1 hc2
      refine lv_aload_n hx hb d_Ke_same_28 rfl (lv_at hl 1 rfl) ?_
      refine kq_get hx hb hts kt_F_Sp hown hK hOa rfl 2 (by decide) kt_w34 rfl d_Ke_same_29 ?_
      refine lv_if_eq hx hb d_Ke_same_32 rfl (fun hc3 => ?_) (fun hc3 => ?_)
      · refine lv_iconst (v := nI 0) hx hb d_Ke_same_47 (by decide) ?_
        exact W.zret hx hb hret rfl (fun t ht _ => ⟨_, rfl, by rw [ha, hb0]; rfl, by rw [ht]; exact hW⟩) hlc2 d_Ke_same_48
      · rw [ha] at hc3
        exact absurd rfl hc3
theorem d_Ke_base_0 : decode b_Ke_base 0 = .ok (.aload_n 0, 1) := by decide +kernel
theorem d_Ke_base_1 : decode b_Ke_base 1 = .ok (.iload_n 1, 1) := by decide +kernel
theorem d_Ke_base_2 : decode b_Ke_base 2 = .ok (.invokevirtual 82, 3) := by decide +kernel
theorem d_Ke_base_5 : decode b_Ke_base 5 = .ok (.getstatic 86, 3) := by decide +kernel
theorem d_Ke_base_8 : decode b_Ke_base 8 = .ok (.getstatic 89, 3) := by decide +kernel
theorem d_Ke_base_11 : decode b_Ke_base 11 = .ok (.invokevirtual 92, 3) := by decide +kernel
theorem d_Ke_base_14 : decode b_Ke_base 14 = .ok (.return_, 1) := by decide +kernel
set_option maxHeartbeats 4000000 in
set_option maxRecDepth 100000 in
theorem c_Ke_base (l : Launch) (E : kr_E) (A : Nat → Nat) (o : Nat) (bs : Nat → Bool) (v : Nat → Nat) (H : Heap) (hE : kr_ok E) (hA : kr_A E A) (hO : kr_O E A o bs) (hW : kr_W E v H) (q : Int32) : Met l y_Ke_base w_Ke_base ({ frames := 3, cells := 0, slots := 0, locals := 63 }) (kq_P [.ref o, .int q] H (kr_K E A o)) (kq_Q (fun o1 H1 => o1 = none ∧ kr_Wb E (o + 7 + 3 * kx3 q) false (va_up (va_up v (o + 7 + 3 * kx3 q + 1) kX_G) (o + 7 + 3 * kx3 q + 2) kY_G) H1)) 0 0 (fun x => x = o + 7 + 3 * kx3 q ∨ x = o + 7 + 3 * kx3 q + 1 ∨ x = o + 7 + 3 * kx3 q + 2) := by
  refine Met.ofW (cc := b_Ke_base) (maxL := 2) (ret := none) (by decide) rfl ?_
  intro p e s m args below meth c s₁ B0 hml hv
  obtain ⟨rfl, hH, hKK⟩ := hv
  have hx := B0.exec
  have hb := B0.bytes
  have hret := B0.returns
  have hts := atoms_spec (ws := w_Ke_base) B0.pre
  have hown : s.vm.findClass R_Ke = some m.cls := findClass_of_methodNamed B0.named
  have hlocks := B0.notSynchronized
  rw [hH]
  have hl := lv_entry ([.ref o, .int q]) (n := 2) (Nat.le_of_ble_eq_true rfl)
  rw [lg_entry_eq]
  generalize (lg_sl ([.ref o, .int q]) ++ List.replicate (2 - (lg_sl ([.ref o, .int q])).length) Slot.unset).toArray = ls at hl ⊢
  have hl : lv_has ls 2 [(0, .ref o), (1, .int q)] := hl
  have hB := hKK.1.1
  have hT := kr_T hE hB
  have hK := hB.1
  have hOo := kr_obj hW hO.1 hO.2.1
  have hS := hO.2.2.2.2.2.2.2 (kx3 q) (kx3_lt q)
  have hOs := kr_obj hW hS.1 hS.2.1
  have hne : A 5 ≠ o + 7 + 3 * kx3 q + 1 := fun z => hE.1 _ hA.2.2.2.2.2.1 (by rw [z]; exact hS.2.2.1.1)
  refine lv_aload_n hx hb d_Ke_base_0 rfl (lv_at hl 0 rfl) ?_
  refine lv_iload_n hx hb d_Ke_base_1 rfl (lv_at hl 1 rfl) ?_
  refine kq_call (va_runV (As := [.int q]) (rest := []) ⟨hx, hb, hml, hown, hts⟩ (c_Ke_spot l E A o bs v H hE hA hO hW q) (cwV 1 hts (kt_inV kt_w276 kt_w273 kt_w275 kt_s5 kt_w1) rfl rfl rfl (by decide +kernel) ⟨Nat.le_of_ble_eq_true rfl, Nat.le_of_ble_eq_true rfl⟩) (kq_p2V (kr_K_s2 E A o) (hKK) (kq_recv hKK.1.1.1 hOo rfl)) rfl rfl hl.1 rfl (lv_room (Nat.le_of_ble_eq_true rfl)) d_Ke_base_2 ⟨Nat.zero_le _, Nat.zero_le _⟩) (fun v9 H9 L1 hq9 hL1 => ?_)
  obtain ⟨rfl, e9⟩ := hq9
  rw [e9]
  clear e9
  refine W.eq (g2 := F0 m 5 ls [.ref (o + 7 + 3 * kx3 q)]) rfl ?_
  refine kq_gets hx hb hts (kr_zat hW hKK.1.2.2.2.2.2.2.1) hown kt_w277 d_Ke_base_5 ?_
  refine kq_gets hx hb hts (kr_zat hW hKK.1.2.2.2.2.2.2.2) hown kt_w279 d_Ke_base_8 ?_
  refine kq_call (va_runV (As := [.ref (A 4), .ref (A 5)]) (rest := []) ⟨hx, hb, hml, hown, hts⟩ (c_Sp_become l E v H hE hW (o + 7 + 3 * kx3 q) (bs (kx3 q)) hS (A 4) (A 5) (Or.inr hA.2.2.2.2.1.1) (Or.inr hA.2.2.2.2.2.1) hne) (cwV 2 hts (kt_inV kt_w284 kt_w281 kt_w282 kt_w283 kt_w2) rfl rfl rfl (by decide +kernel) ⟨Nat.le_of_ble_eq_true rfl, Nat.le_of_ble_eq_true rfl⟩) (kq_preV (kr_st E) (hB) (kq_recv hB.1 hOs rfl)) rfl rfl hl.1 rfl (lv_room (Nat.le_of_ble_eq_true rfl)) d_Ke_base_11 ⟨Nat.zero_le _, Nat.zero_le _⟩) (fun v9 H9 L2 hq9 hL2 => ?_)
  obtain ⟨rfl, hX⟩ := hq9
  refine W.eq (g2 := F0 m 14 ls []) rfl ?_
  rw [kr_cst hW hA.2.2.2.2.1, kr_cst hW hA.2.2.2.2.2] at hX
  exact W.vret hx hb hret (fun t ht _ => ⟨_, rfl, rfl, by rw [ht]; exact hX⟩) (t_lL (free := (fun x => x = o + 7 + 3 * kx3 q ∨ x = o + 7 + 3 * kx3 q + 1 ∨ x = o + 7 + 3 * kx3 q + 2)) (t_lL (free := (fun x => x = o + 7 + 3 * kx3 q ∨ x = o + 7 + 3 * kx3 q + 1 ∨ x = o + 7 + 3 * kx3 q + 2)) (fun q h => by cases h) (fun q z => (hL1 q z).elim)) hL2) d_Ke_base_14
theorem d_Ke_none_0 : decode b_Ke_none 0 = .ok (.aload_n 0, 1) := by decide +kernel
theorem d_Ke_none_1 : decode b_Ke_none 1 = .ok (.iload_n 1, 1) := by decide +kernel
theorem d_Ke_none_2 : decode b_Ke_none 2 = .ok (.invokevirtual 82, 3) := by decide +kernel
theorem d_Ke_none_5 : decode b_Ke_none 5 = .ok (.iconst 1, 1) := by decide +kernel
theorem d_Ke_none_6 : decode b_Ke_none 6 = .ok (.putfield 96, 3) := by decide +kernel
theorem d_Ke_none_9 : decode b_Ke_none 9 = .ok (.return_, 1) := by decide +kernel
set_option maxHeartbeats 4000000 in
set_option maxRecDepth 100000 in
theorem c_Ke_none (l : Launch) (E : kr_E) (A : Nat → Nat) (o : Nat) (bs : Nat → Bool) (v : Nat → Nat) (H : Heap) (hE : kr_ok E) (hA : kr_A E A) (hO : kr_O E A o bs) (hW : kr_W E v H) (q : Int32) : Met l y_Ke_none w_Ke_none ({ frames := 1, cells := 0, slots := 0, locals := 21 }) (kq_P [.ref o, .int q] H (kr_K E A o)) (kq_Q (fun o1 H1 => o1 = none ∧ kr_Wb E (o + 7 + 3 * kx3 q) true v H1)) 0 0 (fun x => x = o + 7 + 3 * kx3 q) := by
  refine Met.ofW (cc := b_Ke_none) (maxL := 2) (ret := none) (by decide) rfl ?_
  intro p e s m args below meth c s₁ B0 hml hv
  obtain ⟨rfl, hH, hKK⟩ := hv
  have hx := B0.exec
  have hb := B0.bytes
  have hret := B0.returns
  have hts := atoms_spec (ws := w_Ke_none) B0.pre
  have hown : s.vm.findClass R_Ke = some m.cls := findClass_of_methodNamed B0.named
  have hlocks := B0.notSynchronized
  rw [hH]
  have hl := lv_entry ([.ref o, .int q]) (n := 2) (Nat.le_of_ble_eq_true rfl)
  rw [lg_entry_eq]
  generalize (lg_sl ([.ref o, .int q]) ++ List.replicate (2 - (lg_sl ([.ref o, .int q])).length) Slot.unset).toArray = ls at hl ⊢
  have hl : lv_has ls 2 [(0, .ref o), (1, .int q)] := hl
  have hB := hKK.1.1
  have hT := kr_T hE hB
  have hK := hB.1
  have hOo := kr_obj hW hO.1 hO.2.1
  have hS := hO.2.2.2.2.2.2.2 (kx3 q) (kx3_lt q)
  have hOs := kr_obj hW hS.1 hS.2.1
  refine lv_aload_n hx hb d_Ke_none_0 rfl (lv_at hl 0 rfl) ?_
  refine lv_iload_n hx hb d_Ke_none_1 rfl (lv_at hl 1 rfl) ?_
  refine kq_call (va_runV (As := [.int q]) (rest := []) ⟨hx, hb, hml, hown, hts⟩ (c_Ke_spot l E A o bs v H hE hA hO hW q) (cwV 1 hts (kt_inV kt_w276 kt_w273 kt_w275 kt_s5 kt_w1) rfl rfl rfl (by decide +kernel) ⟨Nat.le_of_ble_eq_true rfl, Nat.le_of_ble_eq_true rfl⟩) (kq_p2V (kr_K_s2 E A o) (hKK) (kq_recv hKK.1.1.1 hOo rfl)) rfl rfl hl.1 rfl (lv_room (Nat.le_of_ble_eq_true rfl)) d_Ke_none_2 ⟨Nat.zero_le _, Nat.zero_le _⟩) (fun v9 H9 L1 hq9 hL1 => ?_)
  obtain ⟨rfl, e9⟩ := hq9
  rw [e9]
  clear e9
  refine W.eq (g2 := F0 m 5 ls [.ref (o + 7 + 3 * kx3 q)]) rfl ?_
  refine lv_iconst (v := nI 1) hx hb d_Ke_none_5 (by decide) ?_
  refine kq_put hx hb hts kt_F_Sp t_Sp t_Sp_ok n_Sp hown hK hOs rfl 2 (by decide) kt_w34 rfl (ty := .boolean) (by decide +kernel) rfl rfl (Nat.le_of_ble_eq_true rfl) d_Ke_none_6 (fun H3 L3 hP3 hz3 ho3 hL3 => ?_)
  have hP3 : va_P (kr_D E) kr_cl [(o + 7 + 3 * kx3 q, .inr (2, [.ref (o + 7 + 3 * kx3 q + 1), .ref (o + 7 + 3 * kx3 q + 2), .int (kq_z true)]))] H3 := hP3
  exact W.vret hx hb hret (fun t ht _ => ⟨_, rfl, rfl, H, hW, by rw [ht]; exact hz3, fun q hq => by rw [ht]; exact ho3 q hq, by rw [ht]; exact hP3⟩) (t_lL (free := (fun x => x = o + 7 + 3 * kx3 q)) (t_lL (free := (fun x => x = o + 7 + 3 * kx3 q)) (fun q h => by cases h) (fun q z => (hL1 q z).elim)) hL3) d_Ke_none_9
theorem d_Ke_point_0 : decode b_Ke_point 0 = .ok (.aload_n 0, 1) := by decide +kernel
theorem d_Ke_point_1 : decode b_Ke_point 1 = .ok (.getfield 51, 3) := by decide +kernel
theorem d_Ke_point_4 : decode b_Ke_point 4 = .ok (.aload_n 0, 1) := by decide +kernel
theorem d_Ke_point_5 : decode b_Ke_point 5 = .ok (.iload_n 2, 1) := by decide +kernel
theorem d_Ke_point_6 : decode b_Ke_point 6 = .ok (.invokevirtual 55, 3) := by decide +kernel
theorem d_Ke_point_9 : decode b_Ke_point 9 = .ok (.aload_n 0, 1) := by decide +kernel
theorem d_Ke_point_10 : decode b_Ke_point 10 = .ok (.iload_n 3, 1) := by decide +kernel
theorem d_Ke_point_11 : decode b_Ke_point 11 = .ok (.invokevirtual 55, 3) := by decide +kernel
theorem d_Ke_point_14 : decode b_Ke_point 14 = .ok (.invokevirtual 100, 3) := by decide +kernel
theorem d_Ke_point_17 : decode b_Ke_point 17 = .ok (.ifCond .ne 5, 3) := by decide +kernel
theorem d_Ke_point_20 : decode b_Ke_point 20 = .ok (.iconst 0, 1) := by decide +kernel
theorem d_Ke_point_21 : decode b_Ke_point 21 = .ok (.ireturn, 1) := by decide +kernel
theorem d_Ke_point_22 : decode b_Ke_point 22 = .ok (.aload_n 0, 1) := by decide +kernel
theorem d_Ke_point_23 : decode b_Ke_point 23 = .ok (.iload_n 1, 1) := by decide +kernel
theorem d_Ke_point_24 : decode b_Ke_point 24 = .ok (.invokevirtual 82, 3) := by decide +kernel
theorem d_Ke_point_27 : decode b_Ke_point 27 = .ok (.aload_n 0, 1) := by decide +kernel
theorem d_Ke_point_28 : decode b_Ke_point 28 = .ok (.iload_n 2, 1) := by decide +kernel
theorem d_Ke_point_29 : decode b_Ke_point 29 = .ok (.invokevirtual 55, 3) := by decide +kernel
theorem d_Ke_point_32 : decode b_Ke_point 32 = .ok (.aload_n 0, 1) := by decide +kernel
theorem d_Ke_point_33 : decode b_Ke_point 33 = .ok (.iload_n 3, 1) := by decide +kernel
theorem d_Ke_point_34 : decode b_Ke_point 34 = .ok (.invokevirtual 55, 3) := by decide +kernel
theorem d_Ke_point_37 : decode b_Ke_point 37 = .ok (.invokevirtual 92, 3) := by decide +kernel
theorem d_Ke_point_40 : decode b_Ke_point 40 = .ok (.iconst 1, 1) := by decide +kernel
theorem d_Ke_point_41 : decode b_Ke_point 41 = .ok (.ireturn, 1) := by decide +kernel
set_option maxHeartbeats 4000000 in
set_option maxRecDepth 100000 in
theorem c_Ke_point (l : Launch) (E : kr_E) (A : Nat → Nat) (o : Nat) (bs : Nat → Bool) (v : Nat → Nat) (H : Heap) (hE : kr_ok E) (hA : kr_A E A) (hO : kr_O E A o bs) (hW : kr_W E v H) (q a b : Int32) : Met l y_Ke_point w_Ke_point ({ frames := 5, cells := 0, slots := 0, locals := 119 }) (kq_P [.ref o, .int q, .int a, .int b] H (kr_K E A o)) (kq_Q (fun o1 H1 => o1 = some (.int (kq_z (decide (v (o + 2 + kx3 a) < kP ∧ v (o + 2 + kx3 b) < kP ∧ v (o + 2 + kx3 b) * v (o + 2 + kx3 b) % kP = kc_sq (v (o + 2 + kx3 a)))))) ∧ ∃ w : Nat → Nat, kr_Wb E (o + 7 + 3 * kx3 q) (if v (o + 2 + kx3 a) < kP ∧ v (o + 2 + kx3 b) < kP ∧ v (o + 2 + kx3 b) * v (o + 2 + kx3 b) % kP = kc_sq (v (o + 2 + kx3 a)) then false else bs (kx3 q)) w H1 ∧ w (o + 7 + 3 * kx3 q + 1) = (if v (o + 2 + kx3 a) < kP ∧ v (o + 2 + kx3 b) < kP ∧ v (o + 2 + kx3 b) * v (o + 2 + kx3 b) % kP = kc_sq (v (o + 2 + kx3 a)) then v (o + 2 + kx3 a) else v (o + 7 + 3 * kx3 q + 1)) ∧ w (o + 7 + 3 * kx3 q + 2) = (if v (o + 2 + kx3 a) < kP ∧ v (o + 2 + kx3 b) < kP ∧ v (o + 2 + kx3 b) * v (o + 2 + kx3 b) % kP = kc_sq (v (o + 2 + kx3 a)) then v (o + 2 + kx3 b) else v (o + 7 + 3 * kx3 q + 2)) ∧ ∀ x, x ≠ o + 7 + 3 * kx3 q + 1 → x ≠ o + 7 + 3 * kx3 q + 2 → ¬ kr_fr (o + 19) (o + 33) x → w x = v x)) 0 0 (fun x => x = o + 7 + 3 * kx3 q ∨ x = o + 7 + 3 * kx3 q + 1 ∨ x = o + 7 + 3 * kx3 q + 2 ∨ kr_fr (o + 19) (o + 33) x) := by
  refine Met.ofW (cc := b_Ke_point) (maxL := 4) (ret := (some .boolean)) (by decide) rfl ?_
  intro p e s m args below meth c s₁ B0 hml hv
  obtain ⟨rfl, hH, hKK⟩ := hv
  have hx := B0.exec
  have hb := B0.bytes
  have hret := B0.returns
  have hts := atoms_spec (ws := w_Ke_point) B0.pre
  have hown : s.vm.findClass R_Ke = some m.cls := findClass_of_methodNamed B0.named
  have hlocks := B0.notSynchronized
  rw [hH]
  have hl := lv_entry ([.ref o, .int q, .int a, .int b]) (n := 4) (Nat.le_of_ble_eq_true rfl)
  rw [lg_entry_eq]
  generalize (lg_sl ([.ref o, .int q, .int a, .int b]) ++ List.replicate (4 - (lg_sl ([.ref o, .int q, .int a, .int b])).length) Slot.unset).toArray = ls at hl ⊢
  have hl : lv_has ls 4 [(0, .ref o), (1, .int q), (2, .int a), (3, .int b)] := hl
  have hB := hKK.1.1
  have hT := kr_T hE hB
  have hK := hB.1
  have hOo := kr_obj hW hO.1 hO.2.1
  have hao := hO.2.2.2.2.2.2.1 (kx3 a) (kx3_lt a)
  have hbo := hO.2.2.2.2.2.2.1 (kx3 b) (kx3_lt b)
  have hS := hO.2.2.2.2.2.2.2 (kx3 q) (kx3_lt q)
  have hV := hO.2.2.2.2.2.1
  have hOc := kr_obj hW hV.1 hV.2.1
  have l1 := kx3_lt q
  have l2 := kx3_lt a
  have l3 := kx3_lt b
  refine lv_aload_n hx hb d_Ke_point_0 rfl (lv_at hl 0 rfl) ?_
  refine kq_get hx hb hts kt_F_Ke hown hK hOo rfl 4 (by decide) kt_w140 rfl d_Ke_point_1 ?_
  refine lv_aload_n hx hb d_Ke_point_4 rfl (lv_at hl 0 rfl) ?_
  refine lv_iload_n hx hb d_Ke_point_5 rfl (lv_at hl 2 rfl) ?_
  refine kq_call (va_runV (As := [.int a]) (rest := [.ref (o + 33)]) ⟨hx, hb, hml, hown, hts⟩ (c_Ke_register l E A o bs v H hE hA hO hW a) (cwV 1 hts (kt_inV kt_w159 kt_w156 kt_w158 kt_s0 kt_w1) rfl rfl rfl (by decide +kernel) ⟨Nat.le_of_ble_eq_true rfl, Nat.le_of_ble_eq_true rfl⟩) (kq_p2V (kr_K_s2 E A o) (hKK) (kq_recv hKK.1.1.1 hOo rfl)) rfl rfl hl.1 rfl (lv_room (Nat.le_of_ble_eq_true rfl)) d_Ke_point_6 ⟨Nat.zero_le _, Nat.zero_le _⟩) (fun v9 H9 L1 hq9 hL1 => ?_)
  obtain ⟨rfl, e9⟩ := hq9
  rw [e9]
  clear e9
  refine W.eq (g2 := F0 m 9 ls [.ref (o + 2 + kx3 a), .ref (o + 33)]) rfl ?_
  refine lv_aload_n hx hb d_Ke_point_9 rfl (lv_at hl 0 rfl) ?_
  refine lv_iload_n hx hb d_Ke_point_10 rfl (lv_at hl 3 rfl) ?_
  refine kq_call (va_runV (As := [.int b]) (rest := [.ref (o + 2 + kx3 a), .ref (o + 33)]) ⟨hx, hb, hml, hown, hts⟩ (c_Ke_register l E A o bs v H hE hA hO hW b) (cwV 1 hts (kt_inV kt_w159 kt_w156 kt_w158 kt_s0 kt_w1) rfl rfl rfl (by decide +kernel) ⟨Nat.le_of_ble_eq_true rfl, Nat.le_of_ble_eq_true rfl⟩) (kq_p2V (kr_K_s2 E A o) (hKK) (kq_recv hKK.1.1.1 hOo rfl)) rfl rfl hl.1 rfl (lv_room (Nat.le_of_ble_eq_true rfl)) d_Ke_point_11 ⟨Nat.zero_le _, Nat.zero_le _⟩) (fun v9 H9 L2 hq9 hL2 => ?_)
  obtain ⟨rfl, e9⟩ := hq9
  rw [e9]
  clear e9
  refine W.eq (g2 := F0 m 14 ls [.ref (o + 2 + kx3 b), .ref (o + 2 + kx3 a), .ref (o + 33)]) rfl ?_
  refine kq_call (va_runV (As := [.ref (o + 2 + kx3 a), .ref (o + 2 + kx3 b)]) (rest := []) ⟨hx, hb, hml, hown, hts⟩ (c_Cu_holds l E A (o + 19) (A 0) (A 6) 2 kG_P (o + 33) v H hE hA hO.2.2.2.1 hV hW (o + 2 + kx3 a) (o + 2 + kx3 b) hao hbo (by omega) (by omega)) (cwV 2 hts (kt_inV kt_w297 kt_w294 kt_w295 kt_w296 kt_w4) rfl rfl rfl (by decide +kernel) ⟨Nat.le_of_ble_eq_true rfl, Nat.le_of_ble_eq_true rfl⟩) (kq_p2V (kr_C_s2 E A) (hKK.1) (kq_recv hB.1 hOc rfl)) rfl rfl hl.1 rfl (lv_room (Nat.le_of_ble_eq_true rfl)) d_Ke_point_14 ⟨Nat.zero_le _, Nat.zero_le _⟩) (fun v9 H3 L3 hq9 hL3 => ?_)
  obtain ⟨rfl, w3, hW3, k3⟩ := hq9
  refine W.eq (g2 := F0 m 17 ls [.int (kq_z (decide (v (o + 2 + kx3 a) < kP ∧ v (o + 2 + kx3 b) < kP ∧ v (o + 2 + kx3 b) * v (o + 2 + kx3 b) % kP = kc_sq (v (o + 2 + kx3 a)))))]) rfl ?_
  have hlc3 : ∀ q_ ∈ ((([] : List Loc) ++ L1) ++ L2) ++ L3, q_.base = o + 7 + 3 * kx3 q ∨ q_.base = o + 7 + 3 * kx3 q + 1 ∨ q_.base = o + 7 + 3 * kx3 q + 2 ∨ kr_fr (o + 19) (o + 33) q_.base := (t_lL (free := (fun x => x = o + 7 + 3 * kx3 q ∨ x = o + 7 + 3 * kx3 q + 1 ∨ x = o + 7 + 3 * kx3 q + 2 ∨ kr_fr (o + 19) (o + 33) x)) (t_lL (free := (fun x => x = o + 7 + 3 * kx3 q ∨ x = o + 7 + 3 * kx3 q + 1 ∨ x = o + 7 + 3 * kx3 q + 2 ∨ kr_fr (o + 19) (o + 33) x)) (t_lL (free := (fun x => x = o + 7 + 3 * kx3 q ∨ x = o + 7 + 3 * kx3 q + 1 ∨ x = o + 7 + 3 * kx3 q + 2 ∨ kr_fr (o + 19) (o + 33) x)) (fun q h => by cases h) (fun q z => (hL1 q z).elim)) (fun q z => (hL2 q z).elim)) (fun q z => Or.inr (Or.inr (Or.inr (hL3 q z)))))
  have hOo3 := kr_obj hW3 hO.1 hO.2.1
  have hOs3 := kr_obj hW3 hS.1 hS.2.1
  refine lv_if_ne hx hb d_Ke_point_17 rfl (fun hc0 => ?_) (fun hc0 => ?_)
  · have hp : v (o + 2 + kx3 a) < kP ∧ v (o + 2 + kx3 b) < kP ∧ v (o + 2 + kx3 b) * v (o + 2 + kx3 b) % kP = kc_sq (v (o + 2 + kx3 a)) := kq_z_ne.mp hc0
    refine lv_aload_n hx hb d_Ke_point_22 rfl (lv_at hl 0 rfl) ?_
    refine lv_iload_n hx hb d_Ke_point_23 rfl (lv_at hl 1 rfl) ?_
    refine kq_call (va_runV (As := [.int q]) (rest := []) ⟨hx, hb, hml, hown, hts⟩ (c_Ke_spot l E A o bs w3 H3 hE hA hO hW3 q) (cwV 1 hts (kt_inV kt_w276 kt_w273 kt_w275 kt_s5 kt_w1) rfl rfl rfl (by decide +kernel) ⟨Nat.le_of_ble_eq_true rfl, Nat.le_of_ble_eq_true rfl⟩) (kq_p2V (kr_K_s2 E A o) (hKK) (kq_recv hKK.1.1.1 hOo3 rfl)) rfl rfl hl.1 rfl (lv_room (Nat.le_of_ble_eq_true rfl)) d_Ke_point_24 ⟨Nat.zero_le _, Nat.zero_le _⟩) (fun v9 H9 L4 hq9 hL4 => ?_)
    obtain ⟨rfl, e9⟩ := hq9
    rw [e9]
    clear e9
    refine W.eq (g2 := F0 m 27 ls [.ref (o + 7 + 3 * kx3 q)]) rfl ?_
    refine lv_aload_n hx hb d_Ke_point_27 rfl (lv_at hl 0 rfl) ?_
    refine lv_iload_n hx hb d_Ke_point_28 rfl (lv_at hl 2 rfl) ?_
    refine kq_call (va_runV (As := [.int a]) (rest := [.ref (o + 7 + 3 * kx3 q)]) ⟨hx, hb, hml, hown, hts⟩ (c_Ke_register l E A o bs w3 H3 hE hA hO hW3 a) (cwV 1 hts (kt_inV kt_w159 kt_w156 kt_w158 kt_s0 kt_w1) rfl rfl rfl (by decide +kernel) ⟨Nat.le_of_ble_eq_true rfl, Nat.le_of_ble_eq_true rfl⟩) (kq_p2V (kr_K_s2 E A o) (hKK) (kq_recv hKK.1.1.1 hOo3 rfl)) rfl rfl hl.1 rfl (lv_room (Nat.le_of_ble_eq_true rfl)) d_Ke_point_29 ⟨Nat.zero_le _, Nat.zero_le _⟩) (fun v9 H9 L5 hq9 hL5 => ?_)
    obtain ⟨rfl, e9⟩ := hq9
    rw [e9]
    clear e9
    refine W.eq (g2 := F0 m 32 ls [.ref (o + 2 + kx3 a), .ref (o + 7 + 3 * kx3 q)]) rfl ?_
    refine lv_aload_n hx hb d_Ke_point_32 rfl (lv_at hl 0 rfl) ?_
    refine lv_iload_n hx hb d_Ke_point_33 rfl (lv_at hl 3 rfl) ?_
    refine kq_call (va_runV (As := [.int b]) (rest := [.ref (o + 2 + kx3 a), .ref (o + 7 + 3 * kx3 q)]) ⟨hx, hb, hml, hown, hts⟩ (c_Ke_register l E A o bs w3 H3 hE hA hO hW3 b) (cwV 1 hts (kt_inV kt_w159 kt_w156 kt_w158 kt_s0 kt_w1) rfl rfl rfl (by decide +kernel) ⟨Nat.le_of_ble_eq_true rfl, Nat.le_of_ble_eq_true rfl⟩) (kq_p2V (kr_K_s2 E A o) (hKK) (kq_recv hKK.1.1.1 hOo3 rfl)) rfl rfl hl.1 rfl (lv_room (Nat.le_of_ble_eq_true rfl)) d_Ke_point_34 ⟨Nat.zero_le _, Nat.zero_le _⟩) (fun v9 H9 L6 hq9 hL6 => ?_)
    obtain ⟨rfl, e9⟩ := hq9
    rw [e9]
    clear e9
    refine W.eq (g2 := F0 m 37 ls [.ref (o + 2 + kx3 b), .ref (o + 2 + kx3 a), .ref (o + 7 + 3 * kx3 q)]) rfl ?_
    refine kq_call (va_runV (As := [.ref (o + 2 + kx3 a), .ref (o + 2 + kx3 b)]) (rest := []) ⟨hx, hb, hml, hown, hts⟩ (c_Sp_become l E w3 H3 hE hW3 (o + 7 + 3 * kx3 q) (bs (kx3 q)) hS (o + 2 + kx3 a) (o + 2 + kx3 b) (Or.inl hao) (Or.inl hbo) (by omega)) (cwV 2 hts (kt_inV kt_w284 kt_w281 kt_w282 kt_w283 kt_w2) rfl rfl rfl (by decide +kernel) ⟨Nat.le_of_ble_eq_true rfl, Nat.le_of_ble_eq_true rfl⟩) (kq_preV (kr_st E) (hB) (kq_recv hB.1 hOs3 rfl)) rfl rfl hl.1 rfl (lv_room (Nat.le_of_ble_eq_true rfl)) d_Ke_point_37 ⟨Nat.zero_le _, Nat.zero_le _⟩) (fun v9 H9 L7 hq9 hL7 => ?_)
    obtain ⟨rfl, hX⟩ := hq9
    refine W.eq (g2 := F0 m 40 ls []) rfl ?_
    refine lv_iconst (v := nI 1) hx hb d_Ke_point_40 (by decide) ?_
    refine W.zret hx hb hret rfl (fun t ht _ => ⟨_, rfl, by rw [kq_z_t hp], _, by rw [ht, if_pos hp]; exact hX, ?_, ?_, fun x x1 x2 x3 => ?_⟩) (t_lL (free := (fun x => x = o + 7 + 3 * kx3 q ∨ x = o + 7 + 3 * kx3 q + 1 ∨ x = o + 7 + 3 * kx3 q + 2 ∨ kr_fr (o + 19) (o + 33) x)) (t_lL (free := (fun x => x = o + 7 + 3 * kx3 q ∨ x = o + 7 + 3 * kx3 q + 1 ∨ x = o + 7 + 3 * kx3 q + 2 ∨ kr_fr (o + 19) (o + 33) x)) (t_lL (free := (fun x => x = o + 7 + 3 * kx3 q ∨ x = o + 7 + 3 * kx3 q + 1 ∨ x = o + 7 + 3 * kx3 q + 2 ∨ kr_fr (o + 19) (o + 33) x)) (t_lL (free := (fun x => x = o + 7 + 3 * kx3 q ∨ x = o + 7 + 3 * kx3 q + 1 ∨ x = o + 7 + 3 * kx3 q + 2 ∨ kr_fr (o + 19) (o + 33) x)) hlc3 (fun q z => (hL4 q z).elim)) (fun q z => (hL5 q z).elim)) (fun q z => (hL6 q z).elim)) (fun q z => by rcases hL7 q z with z | z | z <;> simp [z])) d_Ke_point_41
    · rw [if_pos hp, kq_up_ne (by omega), kq_up_at]
      exact k3 _ (by unfold kr_fr; omega)
    · rw [if_pos hp, kq_up_at]
      exact k3 _ (by unfold kr_fr; omega)
    · rw [kq_up_ne x2, kq_up_ne x1]
      exact k3 x x3
  · have hp : ¬ (v (o + 2 + kx3 a) < kP ∧ v (o + 2 + kx3 b) < kP ∧ v (o + 2 + kx3 b) * v (o + 2 + kx3 b) % kP = kc_sq (v (o + 2 + kx3 a))) := kq_z_eq.mp hc0
    refine lv_iconst (v := nI 0) hx hb d_Ke_point_20 (by decide) ?_
    exact W.zret hx hb hret rfl (fun t ht _ => ⟨_, rfl, by rw [kq_z_f hp], w3, by rw [ht, if_neg hp]; exact kr_Wb_same hW3 hS, by rw [if_neg hp]; exact k3 _ (by unfold kr_fr; omega), by rw [if_neg hp]; exact k3 _ (by unfold kr_fr; omega), fun x _ _ x3 => k3 x x3⟩) hlc3 d_Ke_point_21
theorem d_Ke_lift_0 : decode b_Ke_lift 0 = .ok (.aload_n 0, 1) := by decide +kernel
theorem d_Ke_lift_1 : decode b_Ke_lift 1 = .ok (.getfield 51, 3) := by decide +kernel
theorem d_Ke_lift_4 : decode b_Ke_lift 4 = .ok (.aload_n 0, 1) := by decide +kernel
theorem d_Ke_lift_5 : decode b_Ke_lift 5 = .ok (.iload_n 1, 1) := by decide +kernel
theorem d_Ke_lift_6 : decode b_Ke_lift 6 = .ok (.invokevirtual 82, 3) := by decide +kernel
theorem d_Ke_lift_9 : decode b_Ke_lift 9 = .ok (.aload_n 0, 1) := by decide +kernel
theorem d_Ke_lift_10 : decode b_Ke_lift 10 = .ok (.iload_n 2, 1) := by decide +kernel
theorem d_Ke_lift_11 : decode b_Ke_lift 11 = .ok (.invokevirtual 55, 3) := by decide +kernel
theorem d_Ke_lift_14 : decode b_Ke_lift 14 = .ok (.iload_n 3, 1) := by decide +kernel
theorem d_Ke_lift_15 : decode b_Ke_lift 15 = .ok (.invokevirtual 103, 3) := by decide +kernel
theorem d_Ke_lift_18 : decode b_Ke_lift 18 = .ok (.ireturn, 1) := by decide +kernel
set_option maxHeartbeats 4000000 in
set_option maxRecDepth 100000 in
theorem c_Ke_lift (l : Launch) (E : kr_E) (A : Nat → Nat) (o : Nat) (bs : Nat → Bool) (v : Nat → Nat) (H : Heap) (hE : kr_ok E) (hA : kr_A E A) (hO : kr_O E A o bs) (hW : kr_W E v H) (q a : Int32) (d : Bool) : Met l y_Ke_lift w_Ke_lift ({ frames := 6, cells := 0, slots := 0, locals := 144 }) (kq_P [.ref o, .int q, .int a, .int (kq_z d)] H (kr_K E A o)) (kq_Q (fun o1 H1 => o1 = some (.int (kq_z (kc_hasb (v (o + 2 + kx3 a))))) ∧ ∃ w : Nat → Nat, kr_Wb E (o + 7 + 3 * kx3 q) (if kc_hasb (v (o + 2 + kx3 a)) = true then false else bs (kx3 q)) w H1 ∧ w (o + 7 + 3 * kx3 q + 1) = (if kc_hasb (v (o + 2 + kx3 a)) = true then v (o + 2 + kx3 a) else v (o + 7 + 3 * kx3 q + 1)) ∧ w (o + 7 + 3 * kx3 q + 2) = (if kc_hasb (v (o + 2 + kx3 a)) = true then kc_y (v (o + 2 + kx3 a)) d else v (o + 7 + 3 * kx3 q + 2)) ∧ ∀ x, x ≠ o + 7 + 3 * kx3 q + 1 → x ≠ o + 7 + 3 * kx3 q + 2 → ¬ kr_fr (o + 19) (o + 33) x → w x = v x)) 0 0 (fun x => x = o + 7 + 3 * kx3 q ∨ x = o + 7 + 3 * kx3 q + 1 ∨ x = o + 7 + 3 * kx3 q + 2 ∨ kr_fr (o + 19) (o + 33) x) := by
  refine Met.ofW (cc := b_Ke_lift) (maxL := 4) (ret := (some .boolean)) (by decide) rfl ?_
  intro p e s m args below meth c s₁ B0 hml hv
  obtain ⟨rfl, hH, hKK⟩ := hv
  have hx := B0.exec
  have hb := B0.bytes
  have hret := B0.returns
  have hts := atoms_spec (ws := w_Ke_lift) B0.pre
  have hown : s.vm.findClass R_Ke = some m.cls := findClass_of_methodNamed B0.named
  have hlocks := B0.notSynchronized
  rw [hH]
  have hl := lv_entry ([.ref o, .int q, .int a, .int (kq_z d)]) (n := 4) (Nat.le_of_ble_eq_true rfl)
  rw [lg_entry_eq]
  generalize (lg_sl ([.ref o, .int q, .int a, .int (kq_z d)]) ++ List.replicate (4 - (lg_sl ([.ref o, .int q, .int a, .int (kq_z d)])).length) Slot.unset).toArray = ls at hl ⊢
  have hl : lv_has ls 4 [(0, .ref o), (1, .int q), (2, .int a), (3, .int (kq_z d))] := hl
  have hB := hKK.1.1
  have hT := kr_T hE hB
  have hK := hB.1
  have hOo := kr_obj hW hO.1 hO.2.1
  have hao := hO.2.2.2.2.2.2.1 (kx3 a) (kx3_lt a)
  have hS := hO.2.2.2.2.2.2.2 (kx3 q) (kx3_lt q)
  have hV := hO.2.2.2.2.2.1
  have hOc := kr_obj hW hV.1 hV.2.1
  have l1 := kx3_lt q
  have l2 := kx3_lt a
  refine lv_aload_n hx hb d_Ke_lift_0 rfl (lv_at hl 0 rfl) ?_
  refine kq_get hx hb hts kt_F_Ke hown hK hOo rfl 4 (by decide) kt_w140 rfl d_Ke_lift_1 ?_
  refine lv_aload_n hx hb d_Ke_lift_4 rfl (lv_at hl 0 rfl) ?_
  refine lv_iload_n hx hb d_Ke_lift_5 rfl (lv_at hl 1 rfl) ?_
  refine kq_call (va_runV (As := [.int q]) (rest := [.ref (o + 33)]) ⟨hx, hb, hml, hown, hts⟩ (c_Ke_spot l E A o bs v H hE hA hO hW q) (cwV 1 hts (kt_inV kt_w276 kt_w273 kt_w275 kt_s5 kt_w1) rfl rfl rfl (by decide +kernel) ⟨Nat.le_of_ble_eq_true rfl, Nat.le_of_ble_eq_true rfl⟩) (kq_p2V (kr_K_s2 E A o) (hKK) (kq_recv hKK.1.1.1 hOo rfl)) rfl rfl hl.1 rfl (lv_room (Nat.le_of_ble_eq_true rfl)) d_Ke_lift_6 ⟨Nat.zero_le _, Nat.zero_le _⟩) (fun v9 H9 L1 hq9 hL1 => ?_)
  obtain ⟨rfl, e9⟩ := hq9
  rw [e9]
  clear e9
  refine W.eq (g2 := F0 m 9 ls [.ref (o + 7 + 3 * kx3 q), .ref (o + 33)]) rfl ?_
  refine lv_aload_n hx hb d_Ke_lift_9 rfl (lv_at hl 0 rfl) ?_
  refine lv_iload_n hx hb d_Ke_lift_10 rfl (lv_at hl 2 rfl) ?_
  refine kq_call (va_runV (As := [.int a]) (rest := [.ref (o + 7 + 3 * kx3 q), .ref (o + 33)]) ⟨hx, hb, hml, hown, hts⟩ (c_Ke_register l E A o bs v H hE hA hO hW a) (cwV 1 hts (kt_inV kt_w159 kt_w156 kt_w158 kt_s0 kt_w1) rfl rfl rfl (by decide +kernel) ⟨Nat.le_of_ble_eq_true rfl, Nat.le_of_ble_eq_true rfl⟩) (kq_p2V (kr_K_s2 E A o) (hKK) (kq_recv hKK.1.1.1 hOo rfl)) rfl rfl hl.1 rfl (lv_room (Nat.le_of_ble_eq_true rfl)) d_Ke_lift_11 ⟨Nat.zero_le _, Nat.zero_le _⟩) (fun v9 H9 L2 hq9 hL2 => ?_)
  obtain ⟨rfl, e9⟩ := hq9
  rw [e9]
  clear e9
  refine W.eq (g2 := F0 m 14 ls [.ref (o + 2 + kx3 a), .ref (o + 7 + 3 * kx3 q), .ref (o + 33)]) rfl ?_
  refine lv_iload_n hx hb d_Ke_lift_14 rfl (lv_at hl 3 rfl) ?_
  refine kq_call (va_runV (As := [.ref (o + 7 + 3 * kx3 q), .ref (o + 2 + kx3 a), .int (kq_z d)]) (rest := []) ⟨hx, hb, hml, hown, hts⟩ (c_Cu_findByX l E A (o + 19) (A 0) (A 6) 2 kG_P (o + 33) (o + 7 + 3 * kx3 q) v H hE hA hO.2.2.2.1 hV hW (bs (kx3 q)) d hS (by omega) (o + 2 + kx3 a) hao (by omega) ⟨by omega, by omega⟩) (cwV 3 hts (kt_inV kt_w313 kt_w310 kt_w311 kt_w312 kt_w4) rfl rfl rfl (by decide +kernel) ⟨Nat.le_of_ble_eq_true rfl, Nat.le_of_ble_eq_true rfl⟩) (kq_p2V (kr_C_s2 E A) (hKK.1) (kq_recv hB.1 hOc rfl)) rfl rfl hl.1 rfl (lv_room (Nat.le_of_ble_eq_true rfl)) d_Ke_lift_15 ⟨Nat.zero_le _, Nat.zero_le _⟩) (fun v9 H9 L3 hq9 hL3 => ?_)
  obtain ⟨rfl, w9, h1, h2, h3, h4⟩ := hq9
  refine W.eq (g2 := F0 m 18 ls [.int (kq_z (kc_hasb (v (o + 2 + kx3 a))))]) rfl ?_
  exact W.zret hx hb hret (by unfold kq_z; split <;> rfl) (fun t ht _ => ⟨_, rfl, rfl, w9, by rw [ht]; exact h1, h2, h3, h4⟩) (t_lL (free := (fun x => x = o + 7 + 3 * kx3 q ∨ x = o + 7 + 3 * kx3 q + 1 ∨ x = o + 7 + 3 * kx3 q + 2 ∨ kr_fr (o + 19) (o + 33) x)) (t_lL (free := (fun x => x = o + 7 + 3 * kx3 q ∨ x = o + 7 + 3 * kx3 q + 1 ∨ x = o + 7 + 3 * kx3 q + 2 ∨ kr_fr (o + 19) (o + 33) x)) (t_lL (free := (fun x => x = o + 7 + 3 * kx3 q ∨ x = o + 7 + 3 * kx3 q + 1 ∨ x = o + 7 + 3 * kx3 q + 2 ∨ kr_fr (o + 19) (o + 33) x)) (fun q h => by cases h) (fun q z => (hL1 q z).elim)) (fun q z => (hL2 q z).elim)) hL3) d_Ke_lift_18
end
section
/-! KeyCurve: plus, times (own rows). -/
def kc_sum2 (ba : Bool) (xa ya : Nat) (bb : Bool) (xb yb : Nat) : Option (Nat × Nat) := if bb = true then (if ba = true then none else kc_join none xa ya) else kc_join (if ba = true then none else kc_join none xa ya) xb yb
theorem d_Ke_plus_0 : decode b_Ke_plus 0 = .ok (.aload_n 0, 1) := by decide +kernel
theorem d_Ke_plus_1 : decode b_Ke_plus 1 = .ok (.getfield 51, 3) := by decide +kernel
theorem d_Ke_plus_4 : decode b_Ke_plus 4 = .ok (.invokevirtual 107, 3) := by decide +kernel
theorem d_Ke_plus_7 : decode b_Ke_plus 7 = .ok (.aload_n 0, 1) := by decide +kernel
theorem d_Ke_plus_8 : decode b_Ke_plus 8 = .ok (.getfield 51, 3) := by decide +kernel
theorem d_Ke_plus_11 : decode b_Ke_plus 11 = .ok (.aload_n 0, 1) := by decide +kernel
theorem d_Ke_plus_12 : decode b_Ke_plus 12 = .ok (.iload_n 2, 1) := by decide +kernel
theorem d_Ke_plus_13 : decode b_Ke_plus 13 = .ok (.invokevirtual 82, 3) := by decide +kernel
theorem d_Ke_plus_16 : decode b_Ke_plus 16 = .ok (.invokevirtual 110, 3) := by decide +kernel
theorem d_Ke_plus_19 : decode b_Ke_plus 19 = .ok (.aload_n 0, 1) := by decide +kernel
theorem d_Ke_plus_20 : decode b_Ke_plus 20 = .ok (.getfield 51, 3) := by decide +kernel
theorem d_Ke_plus_23 : decode b_Ke_plus 23 = .ok (.aload_n 0, 1) := by decide +kernel
theorem d_Ke_plus_24 : decode b_Ke_plus 24 = .ok (.iload_n 3, 1) := by decide +kernel
theorem d_Ke_plus_25 : decode b_Ke_plus 25 = .ok (.invokevirtual 82, 3) := by decide +kernel
theorem d_Ke_plus_28 : decode b_Ke_plus 28 = .ok (.invokevirtual 110, 3) := by decide +kernel
theorem d_Ke_plus_31 : decode b_Ke_plus 31 = .ok (.aload_n 0, 1) := by decide +kernel
theorem d_Ke_plus_32 : decode b_Ke_plus 32 = .ok (.getfield 51, 3) := by decide +kernel
theorem d_Ke_plus_35 : decode b_Ke_plus 35 = .ok (.aload_n 0, 1) := by decide +kernel
theorem d_Ke_plus_36 : decode b_Ke_plus 36 = .ok (.iload_n 1, 1) := by decide +kernel
theorem d_Ke_plus_37 : decode b_Ke_plus 37 = .ok (.invokevirtual 82, 3) := by decide +kernel
theorem d_Ke_plus_40 : decode b_Ke_plus 40 = .ok (.invokevirtual 114, 3) := by decide +kernel
theorem d_Ke_plus_43 : decode b_Ke_plus 43 = .ok (.return_, 1) := by decide +kernel
set_option maxHeartbeats 4000000 in
set_option maxRecDepth 100000 in
theorem c_Ke_plus (l : Launch) (E : kr_E) (A : Nat → Nat) (o : Nat) (bs : Nat → Bool) (v : Nat → Nat) (H : Heap) (hE : kr_ok E) (hA : kr_A E A) (hO : kr_O E A o bs) (hW : kr_W E v H) (hlow : ∀ j, j < 4 → bs j = false → v (o + 7 + 3 * j + 1) < kP ∧ v (o + 7 + 3 * j + 2) < kP) (q a b : Int32) : Met l y_Ke_plus w_Ke_plus ({ frames := 6, cells := 0, slots := 0, locals := 142 }) (kq_P [.ref o, .int q, .int a, .int b] H (kr_K E A o)) (kq_Q (fun o1 H1 => o1 = none ∧ ∃ w : Nat → Nat, kr_Wb E (o + 7 + 3 * kx3 q) (kc_sum2 (bs (kx3 a)) (v (o + 7 + 3 * kx3 a + 1)) (v (o + 7 + 3 * kx3 a + 2)) (bs (kx3 b)) (v (o + 7 + 3 * kx3 b + 1)) (v (o + 7 + 3 * kx3 b + 2))).isNone w H1 ∧ (∀ q0, kc_sum2 (bs (kx3 a)) (v (o + 7 + 3 * kx3 a + 1)) (v (o + 7 + 3 * kx3 a + 2)) (bs (kx3 b)) (v (o + 7 + 3 * kx3 b + 1)) (v (o + 7 + 3 * kx3 b + 2)) = some q0 → w (o + 7 + 3 * kx3 q + 1) = q0.1 ∧ w (o + 7 + 3 * kx3 q + 2) = q0.2) ∧ (kc_sum2 (bs (kx3 a)) (v (o + 7 + 3 * kx3 a + 1)) (v (o + 7 + 3 * kx3 a + 2)) (bs (kx3 b)) (v (o + 7 + 3 * kx3 b + 1)) (v (o + 7 + 3 * kx3 b + 2)) = none → w (o + 7 + 3 * kx3 q + 1) = v (o + 7 + 3 * kx3 q + 1) ∧ w (o + 7 + 3 * kx3 q + 2) = v (o + 7 + 3 * kx3 q + 2)) ∧ ∀ x, x ≠ o + 7 + 3 * kx3 q + 1 → x ≠ o + 7 + 3 * kx3 q + 2 → ¬ kr_fr (o + 19) (o + 33) x → w x = v x)) 0 0 (fun x => x = o + 7 + 3 * kx3 q ∨ x = o + 7 + 3 * kx3 q + 1 ∨ x = o + 7 + 3 * kx3 q + 2 ∨ kr_fr (o + 19) (o + 33) x) := by
  refine Met.ofW (cc := b_Ke_plus) (maxL := 4) (ret := none) (by decide) rfl ?_
  intro p e s m args below meth c s₁ B0 hml hv
  obtain ⟨rfl, hH, hKK⟩ := hv
  have hx := B0.exec
  have hb := B0.bytes
  have hret := B0.returns
  have hts := atoms_spec (ws := w_Ke_plus) B0.pre
  have hown : s.vm.findClass R_Ke = some m.cls := findClass_of_methodNamed B0.named
  have hlocks := B0.notSynchronized
  rw [hH]
  have hl := lv_entry ([.ref o, .int q, .int a, .int b]) (n := 4) (Nat.le_of_ble_eq_true rfl)
  rw [lg_entry_eq]
  generalize (lg_sl ([.ref o, .int q, .int a, .int b]) ++ List.replicate (4 - (lg_sl ([.ref o, .int q, .int a, .int b])).length) Slot.unset).toArray = ls at hl ⊢
  have hl : lv_has ls 4 [(0, .ref o), (1, .int q), (2, .int a), (3, .int b)] := hl
  have hB := hKK.1.1
  have hT := kr_T hE hB
  have hK := hB.1
  have hOo := kr_obj hW hO.1 hO.2.1
  have hV := hO.2.2.2.2.2.1
  have hP := hO.2.2.2.1
  have hSq := hO.2.2.2.2.2.2.2 (kx3 q) (kx3_lt q)
  have hSa := hO.2.2.2.2.2.2.2 (kx3 a) (kx3_lt a)
  have hla := hlow (kx3 a) (kx3_lt a)
  have l1 := kx3_lt q
  have l2 := kx3_lt a
  have hOc := kr_obj hW hV.1 hV.2.1
  have hSb := hO.2.2.2.2.2.2.2 (kx3 b) (kx3_lt b)
  have hlb := hlow (kx3 b) (kx3_lt b)
  have l3 := kx3_lt b
  refine lv_aload_n hx hb d_Ke_plus_0 rfl (lv_at hl 0 rfl) ?_
  refine kq_get hx hb hts kt_F_Ke hown hK hOo rfl 4 (by decide) kt_w140 rfl d_Ke_plus_1 ?_
  refine kq_call (va_runV (As := []) (rest := []) ⟨hx, hb, hml, hown, hts⟩ (c_Cu_start l E A (o + 19) (A 0) (A 6) 2 kG_P (o + 33) v H hE hA hP hV hW) (cwV 0 hts (kt_inV kt_w323 kt_w320 kt_w321 kt_w322 kt_w4) rfl rfl rfl (by decide +kernel) ⟨Nat.le_of_ble_eq_true rfl, Nat.le_of_ble_eq_true rfl⟩) (kq_p2V (kr_C_s2 E A) (hKK.1) (kq_recv hB.1 hOc rfl)) rfl rfl hl.1 rfl (lv_room (Nat.le_of_ble_eq_true rfl)) d_Ke_plus_4 ⟨Nat.zero_le _, Nat.zero_le _⟩) (fun v9 H1 L1 hq9 hL1 => ?_)
  obtain ⟨rfl, w1, hW1, z1, k1⟩ := hq9
  refine W.eq (g2 := F0 m 7 ls []) rfl ?_
  have r1 : kc_rep none (w1 (o + 33 + 1)) (w1 (o + 33 + 2)) (w1 (o + 33 + 3)) := by rw [z1]; exact kc_rep_none _ _
  have hOo1 := kr_obj hW1 hO.1 hO.2.1
  have hOc1 := kr_obj hW1 hV.1 hV.2.1
  refine lv_aload_n hx hb d_Ke_plus_7 rfl (lv_at hl 0 rfl) ?_
  refine kq_get hx hb hts kt_F_Ke hown hK hOo1 rfl 4 (by decide) kt_w140 rfl d_Ke_plus_8 ?_
  refine lv_aload_n hx hb d_Ke_plus_11 rfl (lv_at hl 0 rfl) ?_
  refine lv_iload_n hx hb d_Ke_plus_12 rfl (lv_at hl 2 rfl) ?_
  refine kq_call (va_runV (As := [.int a]) (rest := [.ref (o + 33)]) ⟨hx, hb, hml, hown, hts⟩ (c_Ke_spot l E A o bs w1 H1 hE hA hO hW1 a) (cwV 1 hts (kt_inV kt_w276 kt_w273 kt_w275 kt_s5 kt_w1) rfl rfl rfl (by decide +kernel) ⟨Nat.le_of_ble_eq_true rfl, Nat.le_of_ble_eq_true rfl⟩) (kq_p2V (kr_K_s2 E A o) (hKK) (kq_recv hKK.1.1.1 hOo1 rfl)) rfl rfl hl.1 rfl (lv_room (Nat.le_of_ble_eq_true rfl)) d_Ke_plus_13 ⟨Nat.zero_le _, Nat.zero_le _⟩) (fun v9 H9 L2 hq9 hL2 => ?_)
  obtain ⟨rfl, e9⟩ := hq9
  rw [e9]
  clear e9
  refine W.eq (g2 := F0 m 16 ls [.ref (o + 7 + 3 * kx3 a), .ref (o + 33)]) rfl ?_
  have y1 := k1 (o + 7 + 3 * kx3 a + 1) (by unfold kr_fr; omega)
  have y2 := k1 (o + 7 + 3 * kx3 a + 2) (by unfold kr_fr; omega)
  refine kq_call (va_runV (As := [.ref (o + 7 + 3 * kx3 a)]) (rest := []) ⟨hx, hb, hml, hown, hts⟩ (c_Cu_join l E A (o + 19) (A 0) (A 6) 2 kG_P (o + 33) (o + 7 + 3 * kx3 a) w1 H1 hE hA hP hV hW1 (bs (kx3 a)) hSa (by omega) none r1 (fun z => by rw [y1, y2]; exact hla z)) (cwV 1 hts (kt_inV kt_w328 kt_w325 kt_w326 kt_w327 kt_w4) rfl rfl rfl (by decide +kernel) ⟨Nat.le_of_ble_eq_true rfl, Nat.le_of_ble_eq_true rfl⟩) (kq_p2V (kr_C_s2 E A) (hKK.1) (kq_recv hB.1 hOc1 rfl)) rfl rfl hl.1 rfl (lv_room (Nat.le_of_ble_eq_true rfl)) d_Ke_plus_16 ⟨Nat.zero_le _, Nat.zero_le _⟩) (fun v9 H2 L3 hq9 hL3 => ?_)
  obtain ⟨rfl, w2, hW2, r2, k2⟩ := hq9
  refine W.eq (g2 := F0 m 19 ls []) rfl ?_
  rw [y1, y2] at r2
  have k2 : ∀ x, ¬ kr_fr (o + 19) (o + 33) x → w2 x = v x := fun x hx => by rw [k2 x hx]; exact k1 x hx
  have hOo2 := kr_obj hW2 hO.1 hO.2.1
  have hOc2 := kr_obj hW2 hV.1 hV.2.1
  refine lv_aload_n hx hb d_Ke_plus_19 rfl (lv_at hl 0 rfl) ?_
  refine kq_get hx hb hts kt_F_Ke hown hK hOo2 rfl 4 (by decide) kt_w140 rfl d_Ke_plus_20 ?_
  refine lv_aload_n hx hb d_Ke_plus_23 rfl (lv_at hl 0 rfl) ?_
  refine lv_iload_n hx hb d_Ke_plus_24 rfl (lv_at hl 3 rfl) ?_
  refine kq_call (va_runV (As := [.int b]) (rest := [.ref (o + 33)]) ⟨hx, hb, hml, hown, hts⟩ (c_Ke_spot l E A o bs w2 H2 hE hA hO hW2 b) (cwV 1 hts (kt_inV kt_w276 kt_w273 kt_w275 kt_s5 kt_w1) rfl rfl rfl (by decide +kernel) ⟨Nat.le_of_ble_eq_true rfl, Nat.le_of_ble_eq_true rfl⟩) (kq_p2V (kr_K_s2 E A o) (hKK) (kq_recv hKK.1.1.1 hOo2 rfl)) rfl rfl hl.1 rfl (lv_room (Nat.le_of_ble_eq_true rfl)) d_Ke_plus_25 ⟨Nat.zero_le _, Nat.zero_le _⟩) (fun v9 H9 L4 hq9 hL4 => ?_)
  obtain ⟨rfl, e9⟩ := hq9
  rw [e9]
  clear e9
  refine W.eq (g2 := F0 m 28 ls [.ref (o + 7 + 3 * kx3 b), .ref (o + 33)]) rfl ?_
  have y3 := k2 (o + 7 + 3 * kx3 b + 1) (by unfold kr_fr; omega)
  have y4 := k2 (o + 7 + 3 * kx3 b + 2) (by unfold kr_fr; omega)
  refine kq_call (va_runV (As := [.ref (o + 7 + 3 * kx3 b)]) (rest := []) ⟨hx, hb, hml, hown, hts⟩ (c_Cu_join l E A (o + 19) (A 0) (A 6) 2 kG_P (o + 33) (o + 7 + 3 * kx3 b) w2 H2 hE hA hP hV hW2 (bs (kx3 b)) hSb (by omega) _ r2 (fun z => by rw [y3, y4]; exact hlb z)) (cwV 1 hts (kt_inV kt_w328 kt_w325 kt_w326 kt_w327 kt_w4) rfl rfl rfl (by decide +kernel) ⟨Nat.le_of_ble_eq_true rfl, Nat.le_of_ble_eq_true rfl⟩) (kq_p2V (kr_C_s2 E A) (hKK.1) (kq_recv hB.1 hOc2 rfl)) rfl rfl hl.1 rfl (lv_room (Nat.le_of_ble_eq_true rfl)) d_Ke_plus_28 ⟨Nat.zero_le _, Nat.zero_le _⟩) (fun v9 H3 L5 hq9 hL5 => ?_)
  obtain ⟨rfl, w3, hW3, r3, k3⟩ := hq9
  refine W.eq (g2 := F0 m 31 ls []) rfl ?_
  rw [y3, y4] at r3
  have r3 : kc_rep (kc_sum2 (bs (kx3 a)) (v (o + 7 + 3 * kx3 a + 1)) (v (o + 7 + 3 * kx3 a + 2)) (bs (kx3 b)) (v (o + 7 + 3 * kx3 b + 1)) (v (o + 7 + 3 * kx3 b + 2))) (w3 (o + 33 + 1)) (w3 (o + 33 + 2)) (w3 (o + 33 + 3)) := r3
  have k3 : ∀ x, ¬ kr_fr (o + 19) (o + 33) x → w3 x = v x := fun x hx => by rw [k3 x hx]; exact k2 x hx
  have hOo3 := kr_obj hW3 hO.1 hO.2.1
  have hOc3 := kr_obj hW3 hV.1 hV.2.1
  refine lv_aload_n hx hb d_Ke_plus_31 rfl (lv_at hl 0 rfl) ?_
  refine kq_get hx hb hts kt_F_Ke hown hK hOo3 rfl 4 (by decide) kt_w140 rfl d_Ke_plus_32 ?_
  refine lv_aload_n hx hb d_Ke_plus_35 rfl (lv_at hl 0 rfl) ?_
  refine lv_iload_n hx hb d_Ke_plus_36 rfl (lv_at hl 1 rfl) ?_
  refine kq_call (va_runV (As := [.int q]) (rest := [.ref (o + 33)]) ⟨hx, hb, hml, hown, hts⟩ (c_Ke_spot l E A o bs w3 H3 hE hA hO hW3 q) (cwV 1 hts (kt_inV kt_w276 kt_w273 kt_w275 kt_s5 kt_w1) rfl rfl rfl (by decide +kernel) ⟨Nat.le_of_ble_eq_true rfl, Nat.le_of_ble_eq_true rfl⟩) (kq_p2V (kr_K_s2 E A o) (hKK) (kq_recv hKK.1.1.1 hOo3 rfl)) rfl rfl hl.1 rfl (lv_room (Nat.le_of_ble_eq_true rfl)) d_Ke_plus_37 ⟨Nat.zero_le _, Nat.zero_le _⟩) (fun v9 H9 L6 hq9 hL6 => ?_)
  obtain ⟨rfl, e9⟩ := hq9
  rw [e9]
  clear e9
  refine W.eq (g2 := F0 m 40 ls [.ref (o + 7 + 3 * kx3 q), .ref (o + 33)]) rfl ?_
  have hlcZ : ∀ x ∈ (((((([] : List Loc) ++ L1) ++ L2) ++ L3) ++ L4) ++ L5) ++ L6, x.base = o + 7 + 3 * kx3 q ∨ x.base = o + 7 + 3 * kx3 q + 1 ∨ x.base = o + 7 + 3 * kx3 q + 2 ∨ kr_fr (o + 19) (o + 33) x.base := (t_lL (free := (fun x => x = o + 7 + 3 * kx3 q ∨ x = o + 7 + 3 * kx3 q + 1 ∨ x = o + 7 + 3 * kx3 q + 2 ∨ kr_fr (o + 19) (o + 33) x)) (t_lL (free := (fun x => x = o + 7 + 3 * kx3 q ∨ x = o + 7 + 3 * kx3 q + 1 ∨ x = o + 7 + 3 * kx3 q + 2 ∨ kr_fr (o + 19) (o + 33) x)) (t_lL (free := (fun x => x = o + 7 + 3 * kx3 q ∨ x = o + 7 + 3 * kx3 q + 1 ∨ x = o + 7 + 3 * kx3 q + 2 ∨ kr_fr (o + 19) (o + 33) x)) (t_lL (free := (fun x => x = o + 7 + 3 * kx3 q ∨ x = o + 7 + 3 * kx3 q + 1 ∨ x = o + 7 + 3 * kx3 q + 2 ∨ kr_fr (o + 19) (o + 33) x)) (t_lL (free := (fun x => x = o + 7 + 3 * kx3 q ∨ x = o + 7 + 3 * kx3 q + 1 ∨ x = o + 7 + 3 * kx3 q + 2 ∨ kr_fr (o + 19) (o + 33) x)) (t_lL (free := (fun x => x = o + 7 + 3 * kx3 q ∨ x = o + 7 + 3 * kx3 q + 1 ∨ x = o + 7 + 3 * kx3 q + 2 ∨ kr_fr (o + 19) (o + 33) x)) (fun q h => by cases h) (fun q z => Or.inr (Or.inr (Or.inr (hL1 q z))))) (fun q z => (hL2 q z).elim)) (fun q z => Or.inr (Or.inr (Or.inr (hL3 q z))))) (fun q z => (hL4 q z).elim)) (fun q z => Or.inr (Or.inr (Or.inr (hL5 q z))))) (fun q z => (hL6 q z).elim))
  refine kq_call (va_runV (As := [.ref (o + 7 + 3 * kx3 q)]) (rest := []) ⟨hx, hb, hml, hown, hts⟩ (c_Cu_finish l E A (o + 19) (A 0) (A 6) 2 kG_P (o + 33) (o + 7 + 3 * kx3 q) w3 H3 hE hA hP hV hW3 (bs (kx3 q)) hSq (by omega) _ r3) (cwV 1 hts (kt_inV kt_w346 kt_w343 kt_w344 kt_w345 kt_w4) rfl rfl rfl (by decide +kernel) ⟨Nat.le_of_ble_eq_true rfl, Nat.le_of_ble_eq_true rfl⟩) (kq_p2V (kr_C_s2 E A) (hKK.1) (kq_recv hB.1 hOc3 rfl)) rfl rfl hl.1 rfl (lv_room (Nat.le_of_ble_eq_true rfl)) d_Ke_plus_40 ⟨Nat.zero_le _, Nat.zero_le _⟩) (fun v9 H9 Lf hq9 hLf => ?_)
  obtain ⟨rfl, w9, h1, h2, h3, h4⟩ := hq9
  refine W.eq (g2 := F0 m 43 ls []) rfl ?_
  refine W.vret hx hb hret (fun t ht _ => ⟨_, rfl, rfl, w9, by rw [ht]; exact h1, h2, fun z => ?_, fun x x1 x2 x3 => ?_⟩) (t_lL (free := (fun x => x = o + 7 + 3 * kx3 q ∨ x = o + 7 + 3 * kx3 q + 1 ∨ x = o + 7 + 3 * kx3 q + 2 ∨ kr_fr (o + 19) (o + 33) x)) hlcZ hLf) d_Ke_plus_43
  · rw [(h3 z).1, (h3 z).2]
    exact ⟨k3 _ (by unfold kr_fr; omega), k3 _ (by unfold kr_fr; omega)⟩
  · rw [h4 x x1 x2 x3]
    exact k3 x x3
theorem d_Ke_times_0 : decode b_Ke_times 0 = .ok (.aload_n 0, 1) := by decide +kernel
theorem d_Ke_times_1 : decode b_Ke_times 1 = .ok (.getfield 51, 3) := by decide +kernel
theorem d_Ke_times_4 : decode b_Ke_times 4 = .ok (.aload_n 0, 1) := by decide +kernel
theorem d_Ke_times_5 : decode b_Ke_times 5 = .ok (.iload_n 2, 1) := by decide +kernel
theorem d_Ke_times_6 : decode b_Ke_times 6 = .ok (.invokevirtual 82, 3) := by decide +kernel
theorem d_Ke_times_9 : decode b_Ke_times 9 = .ok (.aload_n 0, 1) := by decide +kernel
theorem d_Ke_times_10 : decode b_Ke_times 10 = .ok (.iload_n 3, 1) := by decide +kernel
theorem d_Ke_times_11 : decode b_Ke_times 11 = .ok (.invokevirtual 55, 3) := by decide +kernel
theorem d_Ke_times_14 : decode b_Ke_times 14 = .ok (.invokevirtual 117, 3) := by decide +kernel
theorem d_Ke_times_17 : decode b_Ke_times 17 = .ok (.aload_n 0, 1) := by decide +kernel
theorem d_Ke_times_18 : decode b_Ke_times 18 = .ok (.getfield 51, 3) := by decide +kernel
theorem d_Ke_times_21 : decode b_Ke_times 21 = .ok (.aload_n 0, 1) := by decide +kernel
theorem d_Ke_times_22 : decode b_Ke_times 22 = .ok (.iload_n 1, 1) := by decide +kernel
theorem d_Ke_times_23 : decode b_Ke_times 23 = .ok (.invokevirtual 82, 3) := by decide +kernel
theorem d_Ke_times_26 : decode b_Ke_times 26 = .ok (.invokevirtual 114, 3) := by decide +kernel
theorem d_Ke_times_29 : decode b_Ke_times 29 = .ok (.return_, 1) := by decide +kernel
set_option maxHeartbeats 4000000 in
set_option maxRecDepth 100000 in
theorem c_Ke_times (l : Launch) (E : kr_E) (A : Nat → Nat) (o : Nat) (bs : Nat → Bool) (v : Nat → Nat) (H : Heap) (hE : kr_ok E) (hA : kr_A E A) (hO : kr_O E A o bs) (hW : kr_W E v H) (hlow : ∀ j, j < 4 → bs j = false → v (o + 7 + 3 * j + 1) < kP ∧ v (o + 7 + 3 * j + 2) < kP) (q a r : Int32) : Met l y_Ke_times w_Ke_times ({ frames := 6, cells := 0, slots := 0, locals := 142 }) (kq_P [.ref o, .int q, .int a, .int r] H (kr_K E A o)) (kq_Q (fun o1 H1 => o1 = none ∧ ∃ w : Nat → Nat, kr_Wb E (o + 7 + 3 * kx3 q) (kc_mj (v (o + 2 + kx3 r)) (bs (kx3 a)) (v (o + 7 + 3 * kx3 a + 1)) (v (o + 7 + 3 * kx3 a + 2)) 256).isNone w H1 ∧ (∀ q0, kc_mj (v (o + 2 + kx3 r)) (bs (kx3 a)) (v (o + 7 + 3 * kx3 a + 1)) (v (o + 7 + 3 * kx3 a + 2)) 256 = some q0 → w (o + 7 + 3 * kx3 q + 1) = q0.1 ∧ w (o + 7 + 3 * kx3 q + 2) = q0.2) ∧ (kc_mj (v (o + 2 + kx3 r)) (bs (kx3 a)) (v (o + 7 + 3 * kx3 a + 1)) (v (o + 7 + 3 * kx3 a + 2)) 256 = none → w (o + 7 + 3 * kx3 q + 1) = v (o + 7 + 3 * kx3 q + 1) ∧ w (o + 7 + 3 * kx3 q + 2) = v (o + 7 + 3 * kx3 q + 2)) ∧ ∀ x, x ≠ o + 7 + 3 * kx3 q + 1 → x ≠ o + 7 + 3 * kx3 q + 2 → ¬ kr_fr (o + 19) (o + 33) x → w x = v x)) 0 0 (fun x => x = o + 7 + 3 * kx3 q ∨ x = o + 7 + 3 * kx3 q + 1 ∨ x = o + 7 + 3 * kx3 q + 2 ∨ kr_fr (o + 19) (o + 33) x) := by
  refine Met.ofW (cc := b_Ke_times) (maxL := 4) (ret := none) (by decide) rfl ?_
  intro p e s m args below meth c s₁ B0 hml hv
  obtain ⟨rfl, hH, hKK⟩ := hv
  have hx := B0.exec
  have hb := B0.bytes
  have hret := B0.returns
  have hts := atoms_spec (ws := w_Ke_times) B0.pre
  have hown : s.vm.findClass R_Ke = some m.cls := findClass_of_methodNamed B0.named
  have hlocks := B0.notSynchronized
  rw [hH]
  have hl := lv_entry ([.ref o, .int q, .int a, .int r]) (n := 4) (Nat.le_of_ble_eq_true rfl)
  rw [lg_entry_eq]
  generalize (lg_sl ([.ref o, .int q, .int a, .int r]) ++ List.replicate (4 - (lg_sl ([.ref o, .int q, .int a, .int r])).length) Slot.unset).toArray = ls at hl ⊢
  have hl : lv_has ls 4 [(0, .ref o), (1, .int q), (2, .int a), (3, .int r)] := hl
  have hB := hKK.1.1
  have hT := kr_T hE hB
  have hK := hB.1
  have hOo := kr_obj hW hO.1 hO.2.1
  have hV := hO.2.2.2.2.2.1
  have hP := hO.2.2.2.1
  have hSq := hO.2.2.2.2.2.2.2 (kx3 q) (kx3_lt q)
  have hSa := hO.2.2.2.2.2.2.2 (kx3 a) (kx3_lt a)
  have hla := hlow (kx3 a) (kx3_lt a)
  have l1 := kx3_lt q
  have l2 := kx3_lt a
  have hOc := kr_obj hW hV.1 hV.2.1
  have hro := hO.2.2.2.2.2.2.1 (kx3 r) (kx3_lt r)
  have l3 := kx3_lt r
  refine lv_aload_n hx hb d_Ke_times_0 rfl (lv_at hl 0 rfl) ?_
  refine kq_get hx hb hts kt_F_Ke hown hK hOo rfl 4 (by decide) kt_w140 rfl d_Ke_times_1 ?_
  refine lv_aload_n hx hb d_Ke_times_4 rfl (lv_at hl 0 rfl) ?_
  refine lv_iload_n hx hb d_Ke_times_5 rfl (lv_at hl 2 rfl) ?_
  refine kq_call (va_runV (As := [.int a]) (rest := [.ref (o + 33)]) ⟨hx, hb, hml, hown, hts⟩ (c_Ke_spot l E A o bs v H hE hA hO hW a) (cwV 1 hts (kt_inV kt_w276 kt_w273 kt_w275 kt_s5 kt_w1) rfl rfl rfl (by decide +kernel) ⟨Nat.le_of_ble_eq_true rfl, Nat.le_of_ble_eq_true rfl⟩) (kq_p2V (kr_K_s2 E A o) (hKK) (kq_recv hKK.1.1.1 hOo rfl)) rfl rfl hl.1 rfl (lv_room (Nat.le_of_ble_eq_true rfl)) d_Ke_times_6 ⟨Nat.zero_le _, Nat.zero_le _⟩) (fun v9 H9 L1 hq9 hL1 => ?_)
  obtain ⟨rfl, e9⟩ := hq9
  rw [e9]
  clear e9
  refine W.eq (g2 := F0 m 9 ls [.ref (o + 7 + 3 * kx3 a), .ref (o + 33)]) rfl ?_
  refine lv_aload_n hx hb d_Ke_times_9 rfl (lv_at hl 0 rfl) ?_
  refine lv_iload_n hx hb d_Ke_times_10 rfl (lv_at hl 3 rfl) ?_
  refine kq_call (va_runV (As := [.int r]) (rest := [.ref (o + 7 + 3 * kx3 a), .ref (o + 33)]) ⟨hx, hb, hml, hown, hts⟩ (c_Ke_register l E A o bs v H hE hA hO hW r) (cwV 1 hts (kt_inV kt_w159 kt_w156 kt_w158 kt_s0 kt_w1) rfl rfl rfl (by decide +kernel) ⟨Nat.le_of_ble_eq_true rfl, Nat.le_of_ble_eq_true rfl⟩) (kq_p2V (kr_K_s2 E A o) (hKK) (kq_recv hKK.1.1.1 hOo rfl)) rfl rfl hl.1 rfl (lv_room (Nat.le_of_ble_eq_true rfl)) d_Ke_times_11 ⟨Nat.zero_le _, Nat.zero_le _⟩) (fun v9 H9 L2 hq9 hL2 => ?_)
  obtain ⟨rfl, e9⟩ := hq9
  rw [e9]
  clear e9
  refine W.eq (g2 := F0 m 14 ls [.ref (o + 2 + kx3 r), .ref (o + 7 + 3 * kx3 a), .ref (o + 33)]) rfl ?_
  refine kq_call (va_runV (As := [.ref (o + 7 + 3 * kx3 a), .ref (o + 2 + kx3 r)]) (rest := []) ⟨hx, hb, hml, hown, hts⟩ (c_Cu_startMultiple l E A (o + 19) (A 0) (A 6) 2 kG_P (o + 33) (o + 7 + 3 * kx3 a) v H hE hA hP hV hW (bs (kx3 a)) hSa (by omega) hla (o + 2 + kx3 r) (Or.inl hro) (by omega)) (cwV 2 hts (kt_inV kt_w355 kt_w352 kt_w353 kt_w354 kt_w4) rfl rfl rfl (by decide +kernel) ⟨Nat.le_of_ble_eq_true rfl, Nat.le_of_ble_eq_true rfl⟩) (kq_p2V (kr_C_s2 E A) (hKK.1) (kq_recv hB.1 hOc rfl)) rfl rfl hl.1 rfl (lv_room (Nat.le_of_ble_eq_true rfl)) d_Ke_times_14 ⟨Nat.zero_le _, Nat.zero_le _⟩) (fun v9 H3 L3 hq9 hL3 => ?_)
  obtain ⟨rfl, w3, hW3, r3, k3⟩ := hq9
  refine W.eq (g2 := F0 m 17 ls []) rfl ?_
  have hOo3 := kr_obj hW3 hO.1 hO.2.1
  have hOc3 := kr_obj hW3 hV.1 hV.2.1
  refine lv_aload_n hx hb d_Ke_times_17 rfl (lv_at hl 0 rfl) ?_
  refine kq_get hx hb hts kt_F_Ke hown hK hOo3 rfl 4 (by decide) kt_w140 rfl d_Ke_times_18 ?_
  refine lv_aload_n hx hb d_Ke_times_21 rfl (lv_at hl 0 rfl) ?_
  refine lv_iload_n hx hb d_Ke_times_22 rfl (lv_at hl 1 rfl) ?_
  refine kq_call (va_runV (As := [.int q]) (rest := [.ref (o + 33)]) ⟨hx, hb, hml, hown, hts⟩ (c_Ke_spot l E A o bs w3 H3 hE hA hO hW3 q) (cwV 1 hts (kt_inV kt_w276 kt_w273 kt_w275 kt_s5 kt_w1) rfl rfl rfl (by decide +kernel) ⟨Nat.le_of_ble_eq_true rfl, Nat.le_of_ble_eq_true rfl⟩) (kq_p2V (kr_K_s2 E A o) (hKK) (kq_recv hKK.1.1.1 hOo3 rfl)) rfl rfl hl.1 rfl (lv_room (Nat.le_of_ble_eq_true rfl)) d_Ke_times_23 ⟨Nat.zero_le _, Nat.zero_le _⟩) (fun v9 H9 L4 hq9 hL4 => ?_)
  obtain ⟨rfl, e9⟩ := hq9
  rw [e9]
  clear e9
  refine W.eq (g2 := F0 m 26 ls [.ref (o + 7 + 3 * kx3 q), .ref (o + 33)]) rfl ?_
  have hlcZ : ∀ x ∈ (((([] : List Loc) ++ L1) ++ L2) ++ L3) ++ L4, x.base = o + 7 + 3 * kx3 q ∨ x.base = o + 7 + 3 * kx3 q + 1 ∨ x.base = o + 7 + 3 * kx3 q + 2 ∨ kr_fr (o + 19) (o + 33) x.base := (t_lL (free := (fun x => x = o + 7 + 3 * kx3 q ∨ x = o + 7 + 3 * kx3 q + 1 ∨ x = o + 7 + 3 * kx3 q + 2 ∨ kr_fr (o + 19) (o + 33) x)) (t_lL (free := (fun x => x = o + 7 + 3 * kx3 q ∨ x = o + 7 + 3 * kx3 q + 1 ∨ x = o + 7 + 3 * kx3 q + 2 ∨ kr_fr (o + 19) (o + 33) x)) (t_lL (free := (fun x => x = o + 7 + 3 * kx3 q ∨ x = o + 7 + 3 * kx3 q + 1 ∨ x = o + 7 + 3 * kx3 q + 2 ∨ kr_fr (o + 19) (o + 33) x)) (t_lL (free := (fun x => x = o + 7 + 3 * kx3 q ∨ x = o + 7 + 3 * kx3 q + 1 ∨ x = o + 7 + 3 * kx3 q + 2 ∨ kr_fr (o + 19) (o + 33) x)) (fun q h => by cases h) (fun q z => (hL1 q z).elim)) (fun q z => (hL2 q z).elim)) (fun q z => Or.inr (Or.inr (Or.inr (hL3 q z))))) (fun q z => (hL4 q z).elim))
  refine kq_call (va_runV (As := [.ref (o + 7 + 3 * kx3 q)]) (rest := []) ⟨hx, hb, hml, hown, hts⟩ (c_Cu_finish l E A (o + 19) (A 0) (A 6) 2 kG_P (o + 33) (o + 7 + 3 * kx3 q) w3 H3 hE hA hP hV hW3 (bs (kx3 q)) hSq (by omega) _ r3) (cwV 1 hts (kt_inV kt_w346 kt_w343 kt_w344 kt_w345 kt_w4) rfl rfl rfl (by decide +kernel) ⟨Nat.le_of_ble_eq_true rfl, Nat.le_of_ble_eq_true rfl⟩) (kq_p2V (kr_C_s2 E A) (hKK.1) (kq_recv hB.1 hOc3 rfl)) rfl rfl hl.1 rfl (lv_room (Nat.le_of_ble_eq_true rfl)) d_Ke_times_26 ⟨Nat.zero_le _, Nat.zero_le _⟩) (fun v9 H9 Lf hq9 hLf => ?_)
  obtain ⟨rfl, w9, h1, h2, h3, h4⟩ := hq9
  refine W.eq (g2 := F0 m 29 ls []) rfl ?_
  refine W.vret hx hb hret (fun t ht _ => ⟨_, rfl, rfl, w9, by rw [ht]; exact h1, h2, fun z => ?_, fun x x1 x2 x3 => ?_⟩) (t_lL (free := (fun x => x = o + 7 + 3 * kx3 q ∨ x = o + 7 + 3 * kx3 q + 1 ∨ x = o + 7 + 3 * kx3 q + 2 ∨ kr_fr (o + 19) (o + 33) x)) hlcZ hLf) d_Ke_times_29
  · rw [(h3 z).1, (h3 z).2]
    exact ⟨k3 _ (by unfold kr_fr; omega), k3 _ (by unfold kr_fr; omega)⟩
  · rw [h4 x x1 x2 x3]
    exact k3 x x3
end
section
/-! KeyCurveModel: numbers and compares; compare, isZero, isOne, isEven, bit, copy (own rows). -/
theorem nI_mod (n : Nat) : nI n = nI (n % 4294967296) := Int32.toBitVec_inj.mp (by
  show BitVec.ofNat 32 n = BitVec.ofNat 32 _
  apply BitVec.eq_of_toNat_eq
  rw [BitVec.toNat_ofNat, BitVec.toNat_ofNat, Nat.mod_mod])
theorem kx_nt {w : Nat} (h : w < 4294967296) : (nI w).toBitVec.toNat = w := pk_tn (by omega)
theorem kx_maskN {w : Nat} (h : w < 4294967296) : (nI w).toInt64 &&& lN 4294967295 = lN w := by rw [kx_mask, kx_nt h]
theorem kx_ut {a : Nat} (h : a < 4294967296) : (nI a + (-2147483648)).toInt = (a : Int) - 2147483648 := by
  have e : (nI a + (-2147483648)).toBitVec.toNat = (a + 2147483648) % 4294967296 := by
    rw [Int32.toBitVec_add, BitVec.toNat_add, kx_nt h]
    rfl
  show (nI a + (-2147483648)).toBitVec.toInt = _
  rw [BitVec.toInt_eq_toNat_cond, e]
  split <;> omega
theorem kx_ult {a b : Nat} (ha : a < 4294967296) (hb : b < 4294967296) : nI a + (-2147483648) < nI b + (-2147483648) ↔ a < b := by
  rw [Int32.lt_iff_toInt_lt, kx_ut ha, kx_ut hb]
  omega
theorem kx_ueq {a b : Nat} (ha : a < 4294967296) (hb : b < 4294967296) : nI a + (-2147483648) = nI b + (-2147483648) ↔ a = b := by
  rw [← Int32.toInt_inj, kx_ut ha, kx_ut hb]
  omega
def kx_cmp (a b : Nat) : Int32 := if a < b then -1 else if a = b then 0 else 1
theorem kx_cmp_0 {a b : Nat} : kx_cmp a b = 0 ↔ a = b := by
  unfold kx_cmp
  split
  · exact ⟨fun q => absurd q (by decide), fun q => by omega⟩
  · split
    · rename_i q
      exact ⟨fun _ => q, fun _ => rfl⟩
    · rename_i q
      exact ⟨fun z => absurd z (by decide), fun z => absurd z q⟩
theorem kx_cmp_ge {a b : Nat} : 0 ≤ kx_cmp a b ↔ b ≤ a := by
  unfold kx_cmp
  split
  · exact ⟨fun q => absurd q (by decide), fun q => by omega⟩
  · split
    · exact ⟨fun _ => by omega, fun _ => by decide⟩
    · exact ⟨fun _ => by omega, fun _ => by decide⟩
theorem kx_cmp_lt {a b : Nat} : kx_cmp a b < 0 ↔ a < b := by
  unfold kx_cmp
  split
  · exact ⟨fun _ => by assumption, fun _ => by decide⟩
  · split
    · exact ⟨fun q => absurd q (by decide), fun q => by omega⟩
    · exact ⟨fun q => absurd q (by decide), fun q => by omega⟩
theorem kx_n0 {w : Nat} (h : w < 4294967296) : nI w = 0 ↔ w = 0 := ⟨fun q => kq_nI_inj h (by decide) q, fun q => by rw [q]; rfl⟩
theorem kx_n1 {w : Nat} (h : w < 4294967296) : nI w = nI 1 ↔ w = 1 := ⟨fun q => kq_nI_inj h (by decide) q, fun q => by rw [q]⟩
theorem d_In_compare_0 : decode b_In_compare 0 = .ok (.iload_n 0, 1) := by decide +kernel
theorem d_In_compare_1 : decode b_In_compare 1 = .ok (.iload_n 1, 1) := by decide +kernel
theorem d_In_compare_2 : decode b_In_compare 2 = .ok (.if_icmp .ge 7, 3) := by decide +kernel
theorem d_In_compare_5 : decode b_In_compare 5 = .ok (.iconst (-1), 1) := by decide +kernel
theorem d_In_compare_6 : decode b_In_compare 6 = .ok (.goto 13, 3) := by decide +kernel
theorem d_In_compare_9 : decode b_In_compare 9 = .ok (.iload_n 0, 1) := by decide +kernel
theorem d_In_compare_10 : decode b_In_compare 10 = .ok (.iload_n 1, 1) := by decide +kernel
theorem d_In_compare_11 : decode b_In_compare 11 = .ok (.if_icmp .ne 7, 3) := by decide +kernel
theorem d_In_compare_14 : decode b_In_compare 14 = .ok (.iconst 0, 1) := by decide +kernel
theorem d_In_compare_15 : decode b_In_compare 15 = .ok (.goto 4, 3) := by decide +kernel
theorem d_In_compare_18 : decode b_In_compare 18 = .ok (.iconst 1, 1) := by decide +kernel
theorem d_In_compare_19 : decode b_In_compare 19 = .ok (.ireturn, 1) := by decide +kernel
set_option maxHeartbeats 4000000 in
set_option maxRecDepth 100000 in
theorem c_In_compare (l : Launch) (H : Heap) (x y : Int32) : Met l y_In_compare w_In_compare ({ frames := 0, cells := 0, slots := 0, locals := 0 }) (kq_P [.int x, .int y] H (fun U => True)) (kq_Q (fun v H1 => v = some (.int (if x < y then -1 else if x = y then 0 else 1)) ∧ H1 = H)) 0 0 (fun _ => False) := by
  refine Met.ofW (cc := b_In_compare) (maxL := 2) (ret := (some .int)) (by decide) rfl ?_
  intro p e s m args below meth c s₁ B0 hml hv
  obtain ⟨rfl, hH, -⟩ := hv
  have hx := B0.exec
  have hb := B0.bytes
  have hret := B0.returns
  have hts := atoms_spec (ws := w_In_compare) B0.pre
  have hown : s.vm.findClass R_In = some m.cls := findClass_of_methodNamed B0.named
  have hlocks := B0.notSynchronized
  rw [hH]
  have hl := lv_entry ([.int x, .int y]) (n := 2) (Nat.le_of_ble_eq_true rfl)
  rw [lg_entry_eq]
  generalize (lg_sl ([.int x, .int y]) ++ List.replicate (2 - (lg_sl ([.int x, .int y])).length) Slot.unset).toArray = ls at hl ⊢
  have hl : lv_has ls 2 [(0, .int x), (1, .int y)] := hl
  refine lv_iload_n hx hb d_In_compare_0 rfl (lv_at hl 0 rfl) ?_
  refine lv_iload_n hx hb d_In_compare_1 rfl (lv_at hl 1 rfl) ?_
  refine lv_icmp_ge hx hb d_In_compare_2 rfl (fun hc => ?_) (fun hc => ?_)
  · refine lv_iload_n hx hb d_In_compare_9 rfl (lv_at hl 0 rfl) ?_
    refine lv_iload_n hx hb d_In_compare_10 rfl (lv_at hl 1 rfl) ?_
    refine lv_icmp_ne hx hb d_In_compare_11 rfl (fun hn => ?_) (fun hn => ?_)
    · refine lv_iconst (v := nI 1) hx hb d_In_compare_18 (by decide) ?_
      exact W.iret hx hb hret (fun t ht _ => ⟨_, rfl, by rw [if_neg (Int32.not_lt.mpr hc), if_neg hn]; rfl, ht⟩) (fun q h => by cases h) d_In_compare_19
    · refine lv_iconst (v := nI 0) hx hb d_In_compare_14 (by decide) ?_
      refine lv_goto hx hb d_In_compare_15 rfl ?_
      exact W.iret hx hb hret (fun t ht _ => ⟨_, rfl, by rw [if_neg (Int32.not_lt.mpr hc), if_pos hn]; rfl, ht⟩) (fun q h => by cases h) d_In_compare_19
  · refine lv_iconst (v := (-1)) hx hb d_In_compare_5 (by decide) ?_
    refine lv_goto hx hb d_In_compare_6 rfl ?_
    exact W.iret hx hb hret (fun t ht _ => ⟨_, rfl, by rw [if_pos (Int32.not_le.mp hc)], ht⟩) (fun q h => by cases h) d_In_compare_19
theorem d_In_compareUnsigned_0 : decode b_In_compareUnsigned 0 = .ok (.iload_n 0, 1) := by decide +kernel
theorem d_In_compareUnsigned_1 : decode b_In_compareUnsigned 1 = .ok (.ldc 127, 2) := by decide +kernel
theorem d_In_compareUnsigned_3 : decode b_In_compareUnsigned 3 = .ok (.iadd, 1) := by decide +kernel
theorem d_In_compareUnsigned_4 : decode b_In_compareUnsigned 4 = .ok (.iload_n 1, 1) := by decide +kernel
theorem d_In_compareUnsigned_5 : decode b_In_compareUnsigned 5 = .ok (.ldc 127, 2) := by decide +kernel
theorem d_In_compareUnsigned_7 : decode b_In_compareUnsigned 7 = .ok (.iadd, 1) := by decide +kernel
theorem d_In_compareUnsigned_8 : decode b_In_compareUnsigned 8 = .ok (.invokestatic 259, 3) := by decide +kernel
theorem d_In_compareUnsigned_11 : decode b_In_compareUnsigned 11 = .ok (.ireturn, 1) := by decide +kernel
set_option maxHeartbeats 4000000 in
set_option maxRecDepth 100000 in
theorem c_In_compareUnsigned (l : Launch) (H : Heap) (a b : Nat) (ha : a < 4294967296) (hb0 : b < 4294967296) : Met l y_In_compareUnsigned w_In_compareUnsigned ({ frames := 1, cells := 0, slots := 0, locals := 21 }) (kq_P [.int (nI a), .int (nI b)] H (fun U => True)) (kq_Q (fun v H1 => v = some (.int (kx_cmp a b)) ∧ H1 = H)) 0 0 (fun _ => False) := by
  refine Met.ofW (cc := b_In_compareUnsigned) (maxL := 2) (ret := (some .int)) (by decide) rfl ?_
  intro p e s m args below meth c s₁ B0 hml hv
  obtain ⟨rfl, hH, -⟩ := hv
  have hx := B0.exec
  have hb := B0.bytes
  have hret := B0.returns
  have hts := atoms_spec (ws := w_In_compareUnsigned) B0.pre
  have hown : s.vm.findClass R_In = some m.cls := findClass_of_methodNamed B0.named
  have hlocks := B0.notSynchronized
  rw [hH]
  have hl := lv_entry ([.int (nI a), .int (nI b)]) (n := 2) (Nat.le_of_ble_eq_true rfl)
  rw [lg_entry_eq]
  generalize (lg_sl ([.int (nI a), .int (nI b)]) ++ List.replicate (2 - (lg_sl ([.int (nI a), .int (nI b)])).length) Slot.unset).toArray = ls at hl ⊢
  have hl : lv_has ls 2 [(0, .int (nI a)), (1, .int (nI b))] := hl
  refine lv_iload_n hx hb d_In_compareUnsigned_0 rfl (lv_at hl 0 rfl) ?_
  refine lv_ldc hx hb hown (v := -2147483648) (hts _ (List.mem_cons_of_mem _ kt_w469)) d_In_compareUnsigned_1 ?_
  refine lv_iadd hx hb d_In_compareUnsigned_3 ?_
  refine lv_iload_n hx hb d_In_compareUnsigned_4 rfl (lv_at hl 1 rfl) ?_
  refine lv_ldc hx hb hown (v := -2147483648) (hts _ (List.mem_cons_of_mem _ kt_w469)) d_In_compareUnsigned_5 ?_
  refine lv_iadd hx hb d_In_compareUnsigned_7 ?_
  refine kq_call (va_runS (As := [.int (nI a + (-2147483648)), .int (nI b + (-2147483648))]) (rest := []) ⟨hx, hb, hml, hown, hts⟩ (c_In_compare l H (nI a + (-2147483648)) (nI b + (-2147483648))) (va_cwS 2 hts (kt_inS kt_w472 kt_w470 kt_w471 kt_w8) rfl rfl rfl (by decide +kernel) ⟨Nat.le_of_ble_eq_true rfl, Nat.le_of_ble_eq_true rfl⟩) (kq_preS (kq_st_p) (trivial)) rfl rfl hl.1 rfl (lv_room (Nat.le_of_ble_eq_true rfl)) d_In_compareUnsigned_8 ⟨Nat.zero_le _, Nat.zero_le _⟩) (fun v9 H9 L9 hq9 hL9 => ?_)
  obtain ⟨rfl, e9⟩ := hq9
  rw [e9]
  clear e9
  refine W.eq (g2 := F0 m 11 ls [.int (if nI a + (-2147483648) < nI b + (-2147483648) then -1 else if nI a + (-2147483648) = nI b + (-2147483648) then 0 else 1)]) rfl ?_
  have e1 : (if nI a + (-2147483648) < nI b + (-2147483648) then (-1 : Int32) else if nI a + (-2147483648) = nI b + (-2147483648) then 0 else 1) = kx_cmp a b := by
    unfold kx_cmp
    by_cases h1 : a < b
    · rw [if_pos h1, if_pos ((kx_ult ha hb0).mpr h1)]
    · rw [if_neg h1, if_neg (fun q => h1 ((kx_ult ha hb0).mp q))]
      by_cases h2 : a = b
      · rw [if_pos h2, if_pos ((kx_ueq ha hb0).mpr h2)]
      · rw [if_neg h2, if_neg (fun q => h2 ((kx_ueq ha hb0).mp q))]
  refine kq_ri e1 ?_
  exact W.iret hx hb hret (fun t ht _ => ⟨_, rfl, rfl, ht⟩) (t_lL (free := fun _ => False) (fun q h => by cases h) hL9) d_In_compareUnsigned_11
theorem d_Mo_compare_0 : decode b_Mo_compare 0 = .ok (.bipush 7, 2) := by decide +kernel
theorem d_Mo_compare_2 : decode b_Mo_compare 2 = .ok (.istore_n 2, 1) := by decide +kernel
theorem d_Mo_compare_3 : decode b_Mo_compare 3 = .ok (.iload_n 2, 1) := by decide +kernel
theorem d_Mo_compare_4 : decode b_Mo_compare 4 = .ok (.ifCond .lt 28, 3) := by decide +kernel
theorem d_Mo_compare_7 : decode b_Mo_compare 7 = .ok (.aload_n 0, 1) := by decide +kernel
theorem d_Mo_compare_8 : decode b_Mo_compare 8 = .ok (.iload_n 2, 1) := by decide +kernel
theorem d_Mo_compare_9 : decode b_Mo_compare 9 = .ok (.iaload, 1) := by decide +kernel
theorem d_Mo_compare_10 : decode b_Mo_compare 10 = .ok (.aload_n 1, 1) := by decide +kernel
theorem d_Mo_compare_11 : decode b_Mo_compare 11 = .ok (.iload_n 2, 1) := by decide +kernel
theorem d_Mo_compare_12 : decode b_Mo_compare 12 = .ok (.iaload, 1) := by decide +kernel
theorem d_Mo_compare_13 : decode b_Mo_compare 13 = .ok (.if_icmp .eq 13, 3) := by decide +kernel
theorem d_Mo_compare_16 : decode b_Mo_compare 16 = .ok (.aload_n 0, 1) := by decide +kernel
theorem d_Mo_compare_17 : decode b_Mo_compare 17 = .ok (.iload_n 2, 1) := by decide +kernel
theorem d_Mo_compare_18 : decode b_Mo_compare 18 = .ok (.iaload, 1) := by decide +kernel
theorem d_Mo_compare_19 : decode b_Mo_compare 19 = .ok (.aload_n 1, 1) := by decide +kernel
theorem d_Mo_compare_20 : decode b_Mo_compare 20 = .ok (.iload_n 2, 1) := by decide +kernel
theorem d_Mo_compare_21 : decode b_Mo_compare 21 = .ok (.iaload, 1) := by decide +kernel
theorem d_Mo_compare_22 : decode b_Mo_compare 22 = .ok (.invokestatic 70, 3) := by decide +kernel
theorem d_Mo_compare_25 : decode b_Mo_compare 25 = .ok (.ireturn, 1) := by decide +kernel
theorem d_Mo_compare_26 : decode b_Mo_compare 26 = .ok (.iinc 2 (-1), 3) := by decide +kernel
theorem d_Mo_compare_29 : decode b_Mo_compare 29 = .ok (.goto (-26), 3) := by decide +kernel
theorem d_Mo_compare_32 : decode b_Mo_compare 32 = .ok (.iconst 0, 1) := by decide +kernel
theorem d_Mo_compare_33 : decode b_Mo_compare 33 = .ok (.ireturn, 1) := by decide +kernel
section
variable {p : Program} {l : Launch} {e : Env} {R : Room} {s : State} {m : MethodId} {args : Array Value} {below : List Frame} {meth : Method} {c : Code} {cells slots : Nat} {Q : State → Prop}
set_option maxHeartbeats 4000000 in
set_option maxRecDepth 100000 in
theorem lp_Mo_compare (hx : p.tables.exec = Jvm.exec) (hb : c.code = b_Mo_compare) (hts : ∀ w ∈ w_Mo_compare, w.before args s = true) (hown : s.vm.findClass R_Mo = some m.cls) (hml : c.maxLocals = 3) (hRf : 2 ≤ R.frames) (hRl : 42 ≤ R.locals) {H : Heap} {a b A B : Nat} (hsa : kq_sI s H a 8 A) (hsb : kq_sI s H b 8 B)
    (k0 : ∀ (ls : Array Slot) (L : List Loc) (x : Int32), x = kx_cmp A B → (∀ q ∈ L, False) → W p l e R s m args below meth c H L 0 0 Q (F0 m 25 ls [.int x])) (k1 : ∀ ls : Array Slot, A = B → W p l e R s m args below meth c H [] 0 0 Q (F0 m 32 ls [])) :
    ∀ (n : Nat) (ls : Array Slot), n ≤ 8 → A / kw_M n = B / kw_M n → lv_has ls 3 [(2, .int (kq_dn n)), (0, .ref a), (1, .ref b)] → W p l e R s m args below meth c H [] 0 0 Q (F0 m 3 ls []) := by
  intro n
  induction n with
  | zero =>
    intro ls hn hd hl
    refine lv_iload_n hx hb d_Mo_compare_3 rfl (lv_at hl 0 rfl) ?_
    refine lv_if_lt hx hb d_Mo_compare_4 rfl (fun hc => ?_) (fun hc => ?_)
    · rw [kw_M_0, Nat.div_one, Nat.div_one] at hd
      exact k1 ls hd
    · exact absurd (by decide) hc
  | succ n ih =>
    intro ls hn hd hl
    have hi : n < 8 := by omega
    have lA := kw_d_lt A n
    have lB := kw_d_lt B n
    have hl : lv_has ls 3 [(2, .int (nI n)), (0, .ref a), (1, .ref b)] := hl
    refine lv_iload_n hx hb d_Mo_compare_3 rfl (lv_at hl 0 rfl) ?_
    refine lv_if_lt hx hb d_Mo_compare_4 rfl (fun hc => ?_) (fun hc => ?_)
    · exact absurd hc (nI_pos (by omega))
    · refine lv_aload_n hx hb d_Mo_compare_7 rfl (lv_at hl 1 rfl) ?_
      refine lv_iload_n hx hb d_Mo_compare_8 rfl (lv_at hl 0 rfl) ?_
      refine kq_iald hx hb (hsa) (hi) (by decide) (rfl) d_Mo_compare_9 ?_
      refine lv_aload_n hx hb d_Mo_compare_10 rfl (lv_at hl 2 rfl) ?_
      refine lv_iload_n hx hb d_Mo_compare_11 rfl (lv_at hl 0 rfl) ?_
      refine kq_iald hx hb (hsb) (hi) (by decide) (rfl) d_Mo_compare_12 ?_
      refine lv_icmp_eq hx hb d_Mo_compare_13 rfl (fun hw => ?_) (fun hw => ?_)
      · have hw := kq_nI_inj lA lB hw
        refine lv_iinc (k := 0) (v := kq_dn n) hx hb d_Mo_compare_26 hl rfl (kq_dn_dec n) (by decide) rfl (fun ls hl => ?_)
        have hl : lv_has ls 3 [(2, .int (kq_dn n)), (0, .ref a), (1, .ref b)] := hl
        refine lv_goto hx hb d_Mo_compare_29 rfl ?_
        exact ih ls (by omega) (by rw [kw_d_div, kw_d_div B, hd, hw]) (lv_sub hl [0, 1, 2] rfl)
      · have hne : kw_d A n ≠ kw_d B n := fun q => hw (by rw [q])
        have hlt := kw_less hd hne
        refine lv_aload_n hx hb d_Mo_compare_16 rfl (lv_at hl 1 rfl) ?_
        refine lv_iload_n hx hb d_Mo_compare_17 rfl (lv_at hl 0 rfl) ?_
        refine kq_iald hx hb (hsa) (hi) (by decide) (rfl) d_Mo_compare_18 ?_
        refine lv_aload_n hx hb d_Mo_compare_19 rfl (lv_at hl 2 rfl) ?_
        refine lv_iload_n hx hb d_Mo_compare_20 rfl (lv_at hl 0 rfl) ?_
        refine kq_iald hx hb (hsb) (hi) (by decide) (rfl) d_Mo_compare_21 ?_
        refine kq_call (va_runS (As := [.int (nI (kw_d A n)), .int (nI (kw_d B n))]) (rest := []) ⟨hx, hb, hml, hown, hts⟩ (c_In_compareUnsigned l H (kw_d A n) (kw_d B n) lA lB) (va_cwS 2 hts (kt_inS kt_w468 kt_w466 kt_w467 kt_w8) rfl rfl rfl (by decide +kernel) ⟨Nat.le_trans (Nat.le_of_ble_eq_true rfl) hRf, Nat.le_trans (Nat.le_of_ble_eq_true rfl) hRl⟩) (kq_preS (kq_st_p) (trivial)) rfl rfl hl.1 rfl (lv_room (Nat.le_of_ble_eq_true rfl)) d_Mo_compare_22 ⟨Nat.zero_le _, Nat.zero_le _⟩) (fun v9 H9 L9 hq9 hL9 => ?_)
        obtain ⟨rfl, e9⟩ := hq9
        rw [e9]
        clear e9
        refine W.eq (g2 := F0 m 25 ls [.int (kx_cmp (kw_d A n) (kw_d B n))]) rfl ?_
        have hAB : A ≠ B := fun q => hne (by rw [q])
        refine k0 ls _ _ ?_ (t_lL (free := fun _ => False) (fun q h => by cases h) hL9)
        unfold kx_cmp
        by_cases h1 : A < B
        · rw [if_pos h1, if_pos (hlt.mp h1)]
        · rw [if_neg h1, if_neg (fun q => h1 (hlt.mpr q)), if_neg hAB, if_neg hne]
end
set_option maxHeartbeats 4000000 in
set_option maxRecDepth 100000 in
theorem c_Mo_compare (l : Launch) (H : Heap) (a b A B : Nat) (hA : A < kw_M 8) (hB : B < kw_M 8) : Met l y_Mo_compare w_Mo_compare ({ frames := 2, cells := 0, slots := 0, locals := 42 }) (kq_P [.ref a, .ref b] H (fun U => kq_sI U H a 8 A ∧ kq_sI U H b 8 B)) (kq_Q (fun v H1 => v = some (.int (kx_cmp A B)) ∧ H1 = H)) 0 0 (fun _ => False) := by
  refine Met.ofW (cc := b_Mo_compare) (maxL := 3) (ret := (some .int)) (by decide) rfl ?_
  intro p e s m args below meth c s₁ B0 hml hv
  obtain ⟨rfl, hH, hsa, hsb⟩ := hv
  have hx := B0.exec
  have hb := B0.bytes
  have hret := B0.returns
  have hts := atoms_spec (ws := w_Mo_compare) B0.pre
  have hown : s.vm.findClass R_Mo = some m.cls := findClass_of_methodNamed B0.named
  have hlocks := B0.notSynchronized
  rw [hH]
  have hl := lv_entry ([.ref a, .ref b]) (n := 3) (Nat.le_of_ble_eq_true rfl)
  rw [lg_entry_eq]
  generalize (lg_sl ([.ref a, .ref b]) ++ List.replicate (3 - (lg_sl ([.ref a, .ref b])).length) Slot.unset).toArray = ls at hl ⊢
  have hl : lv_has ls 3 [(0, .ref a), (1, .ref b)] := hl
  refine lv_bipush (v := nI 7) hx hb d_Mo_compare_0 (by decide) ?_
  refine lv_istore_n hx hb d_Mo_compare_2 rfl hl (by decide) rfl (fun ls hl => ?_)
  have hl : lv_has ls 3 [(2, .int (nI 7)), (0, .ref a), (1, .ref b)] := hl
  refine lp_Mo_compare hx hb hts hown hml (Nat.le_of_ble_eq_true rfl) (Nat.le_of_ble_eq_true rfl) hsa hsb (fun ls L x hv hL => ?_) (fun ls he => ?_) 8 ls (Nat.le_refl 8) (by rw [Nat.div_eq_of_lt hA, Nat.div_eq_of_lt hB]) (lv_sub hl [0, 1, 2] rfl)
  · exact W.iret hx hb hret (fun t ht _ => ⟨_, rfl, by rw [hv], ht⟩) hL d_Mo_compare_25
  · refine lv_iconst (v := nI 0) hx hb d_Mo_compare_32 (by decide) ?_
    exact W.iret hx hb hret (fun t ht _ => ⟨_, rfl, by rw [kx_cmp_0.mpr he]; rfl, ht⟩) (fun q h => by cases h) d_Mo_compare_33
theorem d_Mo_isZero_0 : decode b_Mo_isZero 0 = .ok (.iconst 0, 1) := by decide +kernel
theorem d_Mo_isZero_1 : decode b_Mo_isZero 1 = .ok (.istore_n 1, 1) := by decide +kernel
theorem d_Mo_isZero_2 : decode b_Mo_isZero 2 = .ok (.iload_n 1, 1) := by decide +kernel
theorem d_Mo_isZero_3 : decode b_Mo_isZero 3 = .ok (.bipush 8, 2) := by decide +kernel
theorem d_Mo_isZero_5 : decode b_Mo_isZero 5 = .ok (.if_icmp .ge 17, 3) := by decide +kernel
theorem d_Mo_isZero_8 : decode b_Mo_isZero 8 = .ok (.aload_n 0, 1) := by decide +kernel
theorem d_Mo_isZero_9 : decode b_Mo_isZero 9 = .ok (.iload_n 1, 1) := by decide +kernel
theorem d_Mo_isZero_10 : decode b_Mo_isZero 10 = .ok (.iaload, 1) := by decide +kernel
theorem d_Mo_isZero_11 : decode b_Mo_isZero 11 = .ok (.ifCond .eq 5, 3) := by decide +kernel
theorem d_Mo_isZero_14 : decode b_Mo_isZero 14 = .ok (.iconst 0, 1) := by decide +kernel
theorem d_Mo_isZero_15 : decode b_Mo_isZero 15 = .ok (.ireturn, 1) := by decide +kernel
theorem d_Mo_isZero_16 : decode b_Mo_isZero 16 = .ok (.iinc 1 1, 3) := by decide +kernel
theorem d_Mo_isZero_19 : decode b_Mo_isZero 19 = .ok (.goto (-17), 3) := by decide +kernel
theorem d_Mo_isZero_22 : decode b_Mo_isZero 22 = .ok (.iconst 1, 1) := by decide +kernel
theorem d_Mo_isZero_23 : decode b_Mo_isZero 23 = .ok (.ireturn, 1) := by decide +kernel
section
variable {p : Program} {l : Launch} {e : Env} {R : Room} {s : State} {m : MethodId} {args : Array Value} {below : List Frame} {meth : Method} {c : Code} {cells slots : Nat} {Q : State → Prop}
set_option maxHeartbeats 4000000 in
set_option maxRecDepth 100000 in
theorem lp_Mo_isZero (hx : p.tables.exec = Jvm.exec) (hb : c.code = b_Mo_isZero) {H : Heap} {locs : List Loc} {a A : Nat} (hsa : kq_sI s H a 8 A)
    (k0 : ∀ ls : Array Slot, A ≠ 0 → W p l e R s m args below meth c H locs cells slots Q (F0 m 14 ls [])) (k1 : ∀ ls : Array Slot, A % kw_M 8 = 0 → W p l e R s m args below meth c H locs cells slots Q (F0 m 22 ls [])) :
    ∀ (n i : Nat) (ls : Array Slot), i + n = 8 → A % kw_M i = 0 → lv_has ls 2 [(1, .int (nI i)), (0, .ref a)] → W p l e R s m args below meth c H locs cells slots Q (F0 m 2 ls []) := by
  intro n
  induction n with
  | zero =>
    intro i ls hn hi0 hl
    obtain rfl : i = 8 := by omega
    refine lv_iload_n hx hb d_Mo_isZero_2 rfl (lv_at hl 0 rfl) ?_
    refine lv_bipush (v := nI 8) hx hb d_Mo_isZero_3 (by decide) ?_
    refine lv_icmp_ge hx hb d_Mo_isZero_5 rfl (fun hc => ?_) (fun hc => ?_)
    · exact k1 ls hi0
    · exact absurd (nI_le (Nat.le_refl 8) (by decide)) hc
  | succ n ih =>
    intro i ls hn hi0 hl
    have hi : i < 8 := by omega
    have lA := kw_d_lt A i
    refine lv_iload_n hx hb d_Mo_isZero_2 rfl (lv_at hl 0 rfl) ?_
    refine lv_bipush (v := nI 8) hx hb d_Mo_isZero_3 (by decide) ?_
    refine lv_icmp_ge hx hb d_Mo_isZero_5 rfl (fun hc => ?_) (fun hc => ?_)
    · exact absurd hc (nI_ge hi (by decide))
    · refine lv_aload_n hx hb d_Mo_isZero_8 rfl (lv_at hl 1 rfl) ?_
      refine lv_iload_n hx hb d_Mo_isZero_9 rfl (lv_at hl 0 rfl) ?_
      refine kq_iald hx hb (hsa) (hi) (by decide) (rfl) d_Mo_isZero_10 ?_
      refine lv_if_eq hx hb d_Mo_isZero_11 rfl (fun hw => ?_) (fun hw => ?_)
      · refine lv_iinc (k := 0) (v := nI (i + 1)) hx hb d_Mo_isZero_16 hl rfl (kq_inc i) (by decide) rfl (fun ls hl => ?_)
        have hl : lv_has ls 2 [(1, .int (nI (i + 1))), (0, .ref a)] := hl
        refine lv_goto hx hb d_Mo_isZero_19 rfl ?_
        exact ih (i + 1) ls (by omega) (kw_d_zero.mpr ⟨hi0, (kx_n0 lA).mp hw⟩) (lv_sub hl [0, 1] rfl)
      · exact k0 ls (fun q => hw ((kx_n0 lA).mpr (by rw [q, kw_d_null])))
end
set_option maxHeartbeats 4000000 in
set_option maxRecDepth 100000 in
theorem c_Mo_isZero (l : Launch) (H : Heap) (a A : Nat) (hA : A < kw_M 8) : Met l y_Mo_isZero w_Mo_isZero ({ frames := 0, cells := 0, slots := 0, locals := 0 }) (kq_P [.ref a] H (fun U => kq_sI U H a 8 A)) (kq_Q (fun v H1 => v = some (.int (kq_z (decide (A = 0)))) ∧ H1 = H)) 0 0 (fun _ => False) := by
  refine Met.ofW (cc := b_Mo_isZero) (maxL := 2) (ret := (some .boolean)) (by decide) rfl ?_
  intro p e s m args below meth c s₁ B0 hml hv
  obtain ⟨rfl, hH, hsa⟩ := hv
  have hx := B0.exec
  have hb := B0.bytes
  have hret := B0.returns
  have hts := atoms_spec (ws := w_Mo_isZero) B0.pre
  have hown : s.vm.findClass R_Mo = some m.cls := findClass_of_methodNamed B0.named
  have hlocks := B0.notSynchronized
  rw [hH]
  have hl := lv_entry ([.ref a]) (n := 2) (Nat.le_of_ble_eq_true rfl)
  rw [lg_entry_eq]
  generalize (lg_sl ([.ref a]) ++ List.replicate (2 - (lg_sl ([.ref a])).length) Slot.unset).toArray = ls at hl ⊢
  have hl : lv_has ls 2 [(0, .ref a)] := hl
  refine lv_iconst (v := nI 0) hx hb d_Mo_isZero_0 (by decide) ?_
  refine lv_istore_n hx hb d_Mo_isZero_1 rfl hl (by decide) rfl (fun ls hl => ?_)
  have hl : lv_has ls 2 [(1, .int (nI 0)), (0, .ref a)] := hl
  refine lp_Mo_isZero hx hb hsa (fun ls hne => ?_) (fun ls he => ?_) 8 0 ls rfl (by rw [kw_M_0, Nat.mod_one]) (lv_sub hl [0, 1] rfl)
  · refine lv_iconst (v := nI 0) hx hb d_Mo_isZero_14 (by decide) ?_
    exact W.zret hx hb hret rfl (fun t ht _ => ⟨_, rfl, by rw [kq_z_f hne], ht⟩) (fun q h => by cases h) d_Mo_isZero_15
  · rw [Nat.mod_eq_of_lt hA] at he
    refine lv_iconst (v := nI 1) hx hb d_Mo_isZero_22 (by decide) ?_
    exact W.zret hx hb hret rfl (fun t ht _ => ⟨_, rfl, by rw [kq_z_t he], ht⟩) (fun q h => by cases h) d_Mo_isZero_23
theorem d_Mo_isOne_0 : decode b_Mo_isOne 0 = .ok (.iconst 1, 1) := by decide +kernel
theorem d_Mo_isOne_1 : decode b_Mo_isOne 1 = .ok (.istore_n 1, 1) := by decide +kernel
theorem d_Mo_isOne_2 : decode b_Mo_isOne 2 = .ok (.iload_n 1, 1) := by decide +kernel
theorem d_Mo_isOne_3 : decode b_Mo_isOne 3 = .ok (.bipush 8, 2) := by decide +kernel
theorem d_Mo_isOne_5 : decode b_Mo_isOne 5 = .ok (.if_icmp .ge 17, 3) := by decide +kernel
theorem d_Mo_isOne_8 : decode b_Mo_isOne 8 = .ok (.aload_n 0, 1) := by decide +kernel
theorem d_Mo_isOne_9 : decode b_Mo_isOne 9 = .ok (.iload_n 1, 1) := by decide +kernel
theorem d_Mo_isOne_10 : decode b_Mo_isOne 10 = .ok (.iaload, 1) := by decide +kernel
theorem d_Mo_isOne_11 : decode b_Mo_isOne 11 = .ok (.ifCond .eq 5, 3) := by decide +kernel
theorem d_Mo_isOne_14 : decode b_Mo_isOne 14 = .ok (.iconst 0, 1) := by decide +kernel
theorem d_Mo_isOne_15 : decode b_Mo_isOne 15 = .ok (.ireturn, 1) := by decide +kernel
theorem d_Mo_isOne_16 : decode b_Mo_isOne 16 = .ok (.iinc 1 1, 3) := by decide +kernel
theorem d_Mo_isOne_19 : decode b_Mo_isOne 19 = .ok (.goto (-17), 3) := by decide +kernel
theorem d_Mo_isOne_22 : decode b_Mo_isOne 22 = .ok (.aload_n 0, 1) := by decide +kernel
theorem d_Mo_isOne_23 : decode b_Mo_isOne 23 = .ok (.iconst 0, 1) := by decide +kernel
theorem d_Mo_isOne_24 : decode b_Mo_isOne 24 = .ok (.iaload, 1) := by decide +kernel
theorem d_Mo_isOne_25 : decode b_Mo_isOne 25 = .ok (.iconst 1, 1) := by decide +kernel
theorem d_Mo_isOne_26 : decode b_Mo_isOne 26 = .ok (.if_icmp .ne 7, 3) := by decide +kernel
theorem d_Mo_isOne_29 : decode b_Mo_isOne 29 = .ok (.iconst 1, 1) := by decide +kernel
theorem d_Mo_isOne_30 : decode b_Mo_isOne 30 = .ok (.goto 4, 3) := by decide +kernel
theorem d_Mo_isOne_33 : decode b_Mo_isOne 33 = .ok (.iconst 0, 1) := by decide +kernel
theorem d_Mo_isOne_34 : decode b_Mo_isOne 34 = .ok (.ireturn, 1) := by decide +kernel
section
variable {p : Program} {l : Launch} {e : Env} {R : Room} {s : State} {m : MethodId} {args : Array Value} {below : List Frame} {meth : Method} {c : Code} {cells slots : Nat} {Q : State → Prop}
set_option maxHeartbeats 4000000 in
set_option maxRecDepth 100000 in
theorem lp_Mo_isOne (hx : p.tables.exec = Jvm.exec) (hb : c.code = b_Mo_isOne) {H : Heap} {locs : List Loc} {a A : Nat} (hsa : kq_sI s H a 8 A)
    (k0 : ∀ ls : Array Slot, A ≠ 1 → W p l e R s m args below meth c H locs cells slots Q (F0 m 14 ls [])) (k1 : ∀ ls : Array Slot, A % kw_M 8 = kw_d A 0 → lv_has ls 2 [(0, .ref a)] → W p l e R s m args below meth c H locs cells slots Q (F0 m 22 ls [])) :
    ∀ (n i : Nat) (ls : Array Slot), i + n = 8 → 1 ≤ i → A % kw_M i = kw_d A 0 → lv_has ls 2 [(1, .int (nI i)), (0, .ref a)] → W p l e R s m args below meth c H locs cells slots Q (F0 m 2 ls []) := by
  intro n
  induction n with
  | zero =>
    intro i ls hn h1 hi0 hl
    obtain rfl : i = 8 := by omega
    refine lv_iload_n hx hb d_Mo_isOne_2 rfl (lv_at hl 0 rfl) ?_
    refine lv_bipush (v := nI 8) hx hb d_Mo_isOne_3 (by decide) ?_
    refine lv_icmp_ge hx hb d_Mo_isOne_5 rfl (fun hc => ?_) (fun hc => ?_)
    · exact k1 ls hi0 (lv_sub hl [1] rfl)
    · exact absurd (nI_le (Nat.le_refl 8) (by decide)) hc
  | succ n ih =>
    intro i ls hn h1 hi0 hl
    have hi : i < 8 := by omega
    have lA := kw_d_lt A i
    refine lv_iload_n hx hb d_Mo_isOne_2 rfl (lv_at hl 0 rfl) ?_
    refine lv_bipush (v := nI 8) hx hb d_Mo_isOne_3 (by decide) ?_
    refine lv_icmp_ge hx hb d_Mo_isOne_5 rfl (fun hc => ?_) (fun hc => ?_)
    · exact absurd hc (nI_ge hi (by decide))
    · refine lv_aload_n hx hb d_Mo_isOne_8 rfl (lv_at hl 1 rfl) ?_
      refine lv_iload_n hx hb d_Mo_isOne_9 rfl (lv_at hl 0 rfl) ?_
      refine kq_iald hx hb (hsa) (hi) (by decide) (rfl) d_Mo_isOne_10 ?_
      refine lv_if_eq hx hb d_Mo_isOne_11 rfl (fun hw => ?_) (fun hw => ?_)
      · refine lv_iinc (k := 0) (v := nI (i + 1)) hx hb d_Mo_isOne_16 hl rfl (kq_inc i) (by decide) rfl (fun ls hl => ?_)
        have hl : lv_has ls 2 [(1, .int (nI (i + 1))), (0, .ref a)] := hl
        refine lv_goto hx hb d_Mo_isOne_19 rfl ?_
        exact ih (i + 1) ls (by omega) (by omega) (by rw [kw_d_lo, hi0, (kx_n0 lA).mp hw, Nat.mul_zero, Nat.add_zero]) (lv_sub hl [0, 1] rfl)
      · exact k0 ls (fun q => hw ((kx_n0 lA).mpr (by rw [q]; exact kw_d_big (n := 1) (by decide +kernel) h1)))
end
set_option maxHeartbeats 4000000 in
set_option maxRecDepth 100000 in
theorem c_Mo_isOne (l : Launch) (H : Heap) (a A : Nat) (hA : A < kw_M 8) : Met l y_Mo_isOne w_Mo_isOne ({ frames := 0, cells := 0, slots := 0, locals := 0 }) (kq_P [.ref a] H (fun U => kq_sI U H a 8 A)) (kq_Q (fun v H1 => v = some (.int (kq_z (decide (A = 1)))) ∧ H1 = H)) 0 0 (fun _ => False) := by
  refine Met.ofW (cc := b_Mo_isOne) (maxL := 2) (ret := (some .boolean)) (by decide) rfl ?_
  intro p e s m args below meth c s₁ B0 hml hv
  obtain ⟨rfl, hH, hsa⟩ := hv
  have hx := B0.exec
  have hb := B0.bytes
  have hret := B0.returns
  have hts := atoms_spec (ws := w_Mo_isOne) B0.pre
  have hown : s.vm.findClass R_Mo = some m.cls := findClass_of_methodNamed B0.named
  have hlocks := B0.notSynchronized
  rw [hH]
  have hl := lv_entry ([.ref a]) (n := 2) (Nat.le_of_ble_eq_true rfl)
  rw [lg_entry_eq]
  generalize (lg_sl ([.ref a]) ++ List.replicate (2 - (lg_sl ([.ref a])).length) Slot.unset).toArray = ls at hl ⊢
  have hl : lv_has ls 2 [(0, .ref a)] := hl
  refine lv_iconst (v := nI 1) hx hb d_Mo_isOne_0 (by decide) ?_
  refine lv_istore_n hx hb d_Mo_isOne_1 rfl hl (by decide) rfl (fun ls hl => ?_)
  have hl : lv_has ls 2 [(1, .int (nI 1)), (0, .ref a)] := hl
  refine lp_Mo_isOne hx hb hsa (fun ls hne => ?_) (fun ls he hl => ?_) 7 1 ls rfl (Nat.le_refl 1) (by rw [kw_d_lo, kw_M_0, Nat.mod_one, Nat.zero_add, Nat.one_mul]) (lv_sub hl [0, 1] rfl)
  · refine lv_iconst (v := nI 0) hx hb d_Mo_isOne_14 (by decide) ?_
    exact W.zret hx hb hret rfl (fun t ht _ => ⟨_, rfl, by rw [kq_z_f hne], ht⟩) (fun q h => by cases h) d_Mo_isOne_15
  · rw [Nat.mod_eq_of_lt hA] at he
    have lA := kw_d_lt A 0
    refine lv_aload_n hx hb d_Mo_isOne_22 rfl (lv_at hl 0 rfl) ?_
    refine lv_iconst (v := nI 0) hx hb d_Mo_isOne_23 (by decide) ?_
    refine kq_iald hx hb (hsa) ((by decide)) (by decide) (rfl) d_Mo_isOne_24 ?_
    refine lv_iconst (v := nI 1) hx hb d_Mo_isOne_25 (by decide) ?_
    refine lv_icmp_ne hx hb d_Mo_isOne_26 rfl (fun hw => ?_) (fun hw => ?_)
    · have hn : ¬ A = 1 := fun q => hw ((kx_n1 lA).mpr (by rw [← he]; exact q))
      refine lv_iconst (v := nI 0) hx hb d_Mo_isOne_33 (by decide) ?_
      exact W.zret hx hb hret rfl (fun t ht _ => ⟨_, rfl, by rw [kq_z_f hn], ht⟩) (fun q h => by cases h) d_Mo_isOne_34
    · have hp : A = 1 := by rw [he]; exact (kx_n1 lA).mp hw
      refine lv_iconst (v := nI 1) hx hb d_Mo_isOne_29 (by decide) ?_
      refine lv_goto hx hb d_Mo_isOne_30 rfl ?_
      exact W.zret hx hb hret rfl (fun t ht _ => ⟨_, rfl, by rw [kq_z_t hp], ht⟩) (fun q h => by cases h) d_Mo_isOne_34
theorem d_Mo_isEven_0 : decode b_Mo_isEven 0 = .ok (.aload_n 0, 1) := by decide +kernel
theorem d_Mo_isEven_1 : decode b_Mo_isEven 1 = .ok (.iconst 0, 1) := by decide +kernel
theorem d_Mo_isEven_2 : decode b_Mo_isEven 2 = .ok (.iaload, 1) := by decide +kernel
theorem d_Mo_isEven_3 : decode b_Mo_isEven 3 = .ok (.iconst 1, 1) := by decide +kernel
theorem d_Mo_isEven_4 : decode b_Mo_isEven 4 = .ok (.iand, 1) := by decide +kernel
theorem d_Mo_isEven_5 : decode b_Mo_isEven 5 = .ok (.ifCond .ne 7, 3) := by decide +kernel
theorem d_Mo_isEven_8 : decode b_Mo_isEven 8 = .ok (.iconst 1, 1) := by decide +kernel
theorem d_Mo_isEven_9 : decode b_Mo_isEven 9 = .ok (.goto 4, 3) := by decide +kernel
theorem d_Mo_isEven_12 : decode b_Mo_isEven 12 = .ok (.iconst 0, 1) := by decide +kernel
theorem d_Mo_isEven_13 : decode b_Mo_isEven 13 = .ok (.ireturn, 1) := by decide +kernel
set_option maxHeartbeats 4000000 in
set_option maxRecDepth 100000 in
theorem c_Mo_isEven (l : Launch) (H : Heap) (a A : Nat) : Met l y_Mo_isEven w_Mo_isEven ({ frames := 0, cells := 0, slots := 0, locals := 0 }) (kq_P [.ref a] H (fun U => kq_sI U H a 8 A)) (kq_Q (fun v H1 => v = some (.int (kq_z (decide (A % 2 = 0)))) ∧ H1 = H)) 0 0 (fun _ => False) := by
  refine Met.ofW (cc := b_Mo_isEven) (maxL := 1) (ret := (some .boolean)) (by decide) rfl ?_
  intro p e s m args below meth c s₁ B0 hml hv
  obtain ⟨rfl, hH, hsa⟩ := hv
  have hx := B0.exec
  have hb := B0.bytes
  have hret := B0.returns
  have hts := atoms_spec (ws := w_Mo_isEven) B0.pre
  have hown : s.vm.findClass R_Mo = some m.cls := findClass_of_methodNamed B0.named
  have hlocks := B0.notSynchronized
  rw [hH]
  have hl := lv_entry ([.ref a]) (n := 1) (Nat.le_of_ble_eq_true rfl)
  rw [lg_entry_eq]
  generalize (lg_sl ([.ref a]) ++ List.replicate (1 - (lg_sl ([.ref a])).length) Slot.unset).toArray = ls at hl ⊢
  have hl : lv_has ls 1 [(0, .ref a)] := hl
  have lA := kw_d_lt A 0
  refine lv_aload_n hx hb d_Mo_isEven_0 rfl (lv_at hl 0 rfl) ?_
  refine lv_iconst (v := nI 0) hx hb d_Mo_isEven_1 (by decide) ?_
  refine kq_iald hx hb (hsa) ((by decide)) (by decide) (rfl) d_Mo_isEven_2 ?_
  refine lv_iconst (v := nI 1) hx hb d_Mo_isEven_3 (by decide) ?_
  refine lv_iand hx hb d_Mo_isEven_4 ?_
  refine kq_ri (show (nI (kw_d A 0)) &&& (nI 1) = nI (A % 2) from (by rw [pk_andN (n := kw_d A 0) (m := nI 1) (by omega) 1 rfl, kw_d_0]; congr 1; omega)) ?_
  refine lv_if_ne hx hb d_Mo_isEven_5 rfl (fun hw => ?_) (fun hw => ?_)
  · have hn : ¬ A % 2 = 0 := fun q => hw ((kx_n0 (by omega)).mpr q)
    refine lv_iconst (v := nI 0) hx hb d_Mo_isEven_12 (by decide) ?_
    exact W.zret hx hb hret rfl (fun t ht _ => ⟨_, rfl, by rw [kq_z_f hn], ht⟩) (fun q h => by cases h) d_Mo_isEven_13
  · have hp : A % 2 = 0 := (kx_n0 (by omega)).mp hw
    refine lv_iconst (v := nI 1) hx hb d_Mo_isEven_8 (by decide) ?_
    refine lv_goto hx hb d_Mo_isEven_9 rfl ?_
    exact W.zret hx hb hret rfl (fun t ht _ => ⟨_, rfl, by rw [kq_z_t hp], ht⟩) (fun q h => by cases h) d_Mo_isEven_13
theorem d_Mo_bit_0 : decode b_Mo_bit 0 = .ok (.aload_n 0, 1) := by decide +kernel
theorem d_Mo_bit_1 : decode b_Mo_bit 1 = .ok (.iload_n 1, 1) := by decide +kernel
theorem d_Mo_bit_2 : decode b_Mo_bit 2 = .ok (.bipush 32, 2) := by decide +kernel
theorem d_Mo_bit_4 : decode b_Mo_bit 4 = .ok (.idiv, 1) := by decide +kernel
theorem d_Mo_bit_5 : decode b_Mo_bit 5 = .ok (.iaload, 1) := by decide +kernel
theorem d_Mo_bit_6 : decode b_Mo_bit 6 = .ok (.iload_n 1, 1) := by decide +kernel
theorem d_Mo_bit_7 : decode b_Mo_bit 7 = .ok (.bipush 32, 2) := by decide +kernel
theorem d_Mo_bit_9 : decode b_Mo_bit 9 = .ok (.irem, 1) := by decide +kernel
theorem d_Mo_bit_10 : decode b_Mo_bit 10 = .ok (.iushr, 1) := by decide +kernel
theorem d_Mo_bit_11 : decode b_Mo_bit 11 = .ok (.iconst 1, 1) := by decide +kernel
theorem d_Mo_bit_12 : decode b_Mo_bit 12 = .ok (.iand, 1) := by decide +kernel
theorem d_Mo_bit_13 : decode b_Mo_bit 13 = .ok (.ireturn, 1) := by decide +kernel
theorem kx_su : ∀ n, n < 32 → (((nI n).toUInt32 &&& Int32.toUInt32 31).toBitVec % 32).toNat = n := by decide +kernel
set_option maxHeartbeats 4000000 in
set_option maxRecDepth 100000 in
theorem c_Mo_bit (l : Launch) (H : Heap) (a A b : Nat) (hb8 : b < 256) : Met l y_Mo_bit w_Mo_bit ({ frames := 0, cells := 0, slots := 0, locals := 0 }) (kq_P [.ref a, .int (nI b)] H (fun U => kq_sI U H a 8 A)) (kq_Q (fun v H1 => v = some (.int (nI (A / 2 ^ b % 2))) ∧ H1 = H)) 0 0 (fun _ => False) := by
  refine Met.ofW (cc := b_Mo_bit) (maxL := 2) (ret := (some .int)) (by decide) rfl ?_
  intro p e s m args below meth c s₁ B0 hml hv
  obtain ⟨rfl, hH, hsa⟩ := hv
  have hx := B0.exec
  have hb := B0.bytes
  have hret := B0.returns
  have hts := atoms_spec (ws := w_Mo_bit) B0.pre
  have hown : s.vm.findClass R_Mo = some m.cls := findClass_of_methodNamed B0.named
  have hlocks := B0.notSynchronized
  rw [hH]
  have hl := lv_entry ([.ref a, .int (nI b)]) (n := 2) (Nat.le_of_ble_eq_true rfl)
  rw [lg_entry_eq]
  generalize (lg_sl ([.ref a, .int (nI b)]) ++ List.replicate (2 - (lg_sl ([.ref a, .int (nI b)])).length) Slot.unset).toArray = ls at hl ⊢
  have hl : lv_has ls 2 [(0, .ref a), (1, .int (nI b))] := hl
  have lA := kw_d_lt A (b / 32)
  refine lv_aload_n hx hb d_Mo_bit_0 rfl (lv_at hl 0 rfl) ?_
  refine lv_iload_n hx hb d_Mo_bit_1 rfl (lv_at hl 1 rfl) ?_
  refine lv_bipush (v := nI 32) hx hb d_Mo_bit_2 (by decide) ?_
  refine lv_idiv hx hb d_Mo_bit_4 (by decide) ?_
  refine kq_ri (show nI b / nI 32 = nI (b / 32) from pk_div (a := b) (d := 32) (by omega) (by decide) (by decide)) ?_
  refine kq_iald hx hb (hsa) ((by omega)) (by decide) (rfl) d_Mo_bit_5 ?_
  refine lv_iload_n hx hb d_Mo_bit_6 rfl (lv_at hl 1 rfl) ?_
  refine lv_bipush (v := nI 32) hx hb d_Mo_bit_7 (by decide) ?_
  refine lv_irem hx hb d_Mo_bit_9 (by decide) ?_
  refine kq_ri (show nI b - nI b / nI 32 * nI 32 = nI (b % 32) from pk_rem (a := b) (d := 32) (by omega) (by decide) (by decide)) ?_
  refine lv_iushr (v := nI (kw_d A (b / 32) / 2 ^ (b % 32))) hx hb d_Mo_bit_10 (pk_ushrN (by omega) _ _ (kx_su (b % 32) (Nat.mod_lt _ (by decide)))) ?_
  refine lv_iconst (v := nI 1) hx hb d_Mo_bit_11 (by decide) ?_
  refine lv_iand hx hb d_Mo_bit_12 ?_
  refine kq_ri (show (nI (kw_d A (b / 32) / 2 ^ (b % 32))) &&& (nI 1) = nI (A / 2 ^ b % 2) from (by rw [pk_andN (n := kw_d A (b / 32) / 2 ^ (b % 32)) (m := nI 1) (Nat.lt_of_le_of_lt (Nat.div_le_self _ _) (by omega)) 1 rfl]; exact congrArg nI (kw_bit A b))) ?_
  exact W.iret hx hb hret (fun t ht _ => ⟨_, rfl, rfl, ht⟩) (fun q h => by cases h) d_Mo_bit_13
theorem d_Mo_copy_0 : decode b_Mo_copy 0 = .ok (.aload_n 1, 1) := by decide +kernel
theorem d_Mo_copy_1 : decode b_Mo_copy 1 = .ok (.iconst 0, 1) := by decide +kernel
theorem d_Mo_copy_2 : decode b_Mo_copy 2 = .ok (.aload_n 0, 1) := by decide +kernel
theorem d_Mo_copy_3 : decode b_Mo_copy 3 = .ok (.iconst 0, 1) := by decide +kernel
theorem d_Mo_copy_4 : decode b_Mo_copy 4 = .ok (.bipush 8, 2) := by decide +kernel
theorem d_Mo_copy_6 : decode b_Mo_copy 6 = .ok (.invokestatic 78, 3) := by decide +kernel
theorem d_Mo_copy_9 : decode b_Mo_copy 9 = .ok (.return_, 1) := by decide +kernel
set_option maxHeartbeats 4000000 in
set_option maxRecDepth 100000 in
theorem c_Mo_copy (l : Launch) (H : Heap) (cI : ClassId) (r a R0 A : Nat) (hr : H[r]? = some (kq_I cI 8 R0)) : Met l y_Mo_copy w_Mo_copy ({ frames := 1, cells := 0, slots := 0, locals := 20 }) (kq_P [.ref r, .ref a] H (fun U => ArrOfT U cI .int ∧ kq_sI U H a 8 A)) (kq_Q (fun v H1 => v = none ∧ H1 = kq_set H r (kq_I cI 8 A))) 0 0 (fun q => q = r) := by
  refine Met.ofW (cc := b_Mo_copy) (maxL := 2) (ret := none) (by decide) rfl ?_
  intro p e s m args below meth c s₁ B0 hml hv
  obtain ⟨rfl, hH, hT, hsa⟩ := hv
  have hx := B0.exec
  have hb := B0.bytes
  have hret := B0.returns
  have hts := atoms_spec (ws := w_Mo_copy) B0.pre
  have hown : s.vm.findClass R_Mo = some m.cls := findClass_of_methodNamed B0.named
  have hlocks := B0.notSynchronized
  rw [hH]
  have hl := lv_entry ([.ref r, .ref a]) (n := 2) (Nat.le_of_ble_eq_true rfl)
  rw [lg_entry_eq]
  generalize (lg_sl ([.ref r, .ref a]) ++ List.replicate (2 - (lg_sl ([.ref r, .ref a])).length) Slot.unset).toArray = ls at hl ⊢
  have hl : lv_has ls 2 [(0, .ref r), (1, .ref a)] := hl
  refine lv_aload_n hx hb d_Mo_copy_0 rfl (lv_at hl 1 rfl) ?_
  refine lv_iconst (v := nI 0) hx hb d_Mo_copy_1 (by decide) ?_
  refine lv_aload_n hx hb d_Mo_copy_2 rfl (lv_at hl 0 rfl) ?_
  refine lv_iconst (v := nI 0) hx hb d_Mo_copy_3 (by decide) ?_
  refine lv_bipush (v := nI 8) hx hb d_Mo_copy_4 (by decide) ?_
  refine kq_copyI hx hb (by rw [hml]; exact hl.1.symm) hown (hts _ (List.mem_cons_of_mem _ kt_w462)) (hts _ (List.mem_cons_of_mem _ kt_w225)) (hts _ (List.mem_cons_of_mem _ kt_w224)) (hts _ (List.mem_cons_of_mem _ kt_w7)) hsa hT hr (Nat.le_of_ble_eq_true rfl) (Nat.le_of_ble_eq_true rfl) d_Mo_copy_6 (fun L hL => ?_)
  exact W.vret hx hb hret (fun t ht _ => ⟨_, rfl, rfl, ht⟩) hL d_Mo_copy_9
end
section
/-! KeyCurveModel: add, sub (own rows). -/
theorem kx_lI {a : Nat} (h : a < 9223372036854775808) : (lN a).toInt = (a : Int) := pk_lT (by omega)
theorem kx_lneg {e : Nat} (h0 : 0 < e) (h : e ≤ 9223372036854775808) : (lN (18446744073709551616 - e)).toInt = -(e : Int) := by
  show (BitVec.ofNat 64 (18446744073709551616 - e)).toInt = _
  rw [BitVec.toInt_eq_toNat_cond, BitVec.toNat_ofNat]
  split <;> omega
/-- what is borrowed, as the model keeps it: 0 or -1 -/
theorem kx_sar {a b bw : Nat} (ha : a < 4294967296) (hb : b < 4294967296) (hw : bw ≤ 1) : lN (a + 18446744073709551616 - b + (18446744073709551616 - bw)) >>> ((nI 32).toInt64 &&& 63) = lN (18446744073709551616 - (if a < b + bw then 1 else 0)) := by
  have hD : (((nI 32).toInt64 &&& 63).toBitVec.smod 64).toNat = 32 := by decide +kernel
  apply Int64.toInt_inj.mp
  have e : ∀ x : Int64, (x >>> ((nI 32).toInt64 &&& 63)).toInt = x.toInt >>> 32 := by
    intro x
    rw [← hD]
    exact BitVec.toInt_sshiftRight ..
  rw [e, Int.shiftRight_eq_div_pow]
  by_cases h : a < b + bw
  · rw [if_pos h]
    have q : lN (a + 18446744073709551616 - b + (18446744073709551616 - bw)) = lN (18446744073709551616 - (b + bw - a)) := by
      rw [wb_mod]
      congr 1
      omega
    rw [q, kx_lneg (by omega) (by omega), kx_lneg (by decide) (by decide)]
    omega
  · rw [if_neg h]
    have q : lN (a + 18446744073709551616 - b + (18446744073709551616 - bw)) = lN (a - b - bw) := by
      rw [wb_mod, wb_mod (a - b - bw)]
      congr 1
      omega
    have q2 : lN (18446744073709551616 - 0) = lN 0 := by decide +kernel
    rw [q, q2, kx_lI (by omega), kx_lI (by decide)]
    omega
theorem kx_neg0 {bw : Nat} (h : bw ≤ 1) : nI (18446744073709551616 - bw) = 0 ↔ bw = 0 := by
  rcases (show bw = 0 ∨ bw = 1 by omega) with e | e
  · subst e
    exact ⟨fun _ => rfl, fun _ => by decide +kernel⟩
  · subst e
    exact ⟨fun q => absurd q (by decide +kernel), fun q => absurd q (by decide)⟩
theorem d_Mo_add_1_0 : decode b_Mo_add_1 0 = .ok (.lconst 0, 1) := by decide +kernel
theorem d_Mo_add_1_1 : decode b_Mo_add_1 1 = .ok (.lstore_n 3, 1) := by decide +kernel
theorem d_Mo_add_1_2 : decode b_Mo_add_1 2 = .ok (.iconst 0, 1) := by decide +kernel
theorem d_Mo_add_1_3 : decode b_Mo_add_1 3 = .ok (.istore 5, 2) := by decide +kernel
theorem d_Mo_add_1_5 : decode b_Mo_add_1 5 = .ok (.iload 5, 2) := by decide +kernel
theorem d_Mo_add_1_7 : decode b_Mo_add_1 7 = .ok (.bipush 8, 2) := by decide +kernel
theorem d_Mo_add_1_9 : decode b_Mo_add_1 9 = .ok (.if_icmp .ge 42, 3) := by decide +kernel
theorem d_Mo_add_1_12 : decode b_Mo_add_1 12 = .ok (.lload_n 3, 1) := by decide +kernel
theorem d_Mo_add_1_13 : decode b_Mo_add_1 13 = .ok (.aload_n 1, 1) := by decide +kernel
theorem d_Mo_add_1_14 : decode b_Mo_add_1 14 = .ok (.iload 5, 2) := by decide +kernel
theorem d_Mo_add_1_16 : decode b_Mo_add_1 16 = .ok (.iaload, 1) := by decide +kernel
theorem d_Mo_add_1_17 : decode b_Mo_add_1 17 = .ok (.i2l, 1) := by decide +kernel
theorem d_Mo_add_1_18 : decode b_Mo_add_1 18 = .ok (.ldc2_w 76, 3) := by decide +kernel
theorem d_Mo_add_1_21 : decode b_Mo_add_1 21 = .ok (.land, 1) := by decide +kernel
theorem d_Mo_add_1_22 : decode b_Mo_add_1 22 = .ok (.aload_n 2, 1) := by decide +kernel
theorem d_Mo_add_1_23 : decode b_Mo_add_1 23 = .ok (.iload 5, 2) := by decide +kernel
theorem d_Mo_add_1_25 : decode b_Mo_add_1 25 = .ok (.iaload, 1) := by decide +kernel
theorem d_Mo_add_1_26 : decode b_Mo_add_1 26 = .ok (.i2l, 1) := by decide +kernel
theorem d_Mo_add_1_27 : decode b_Mo_add_1 27 = .ok (.ldc2_w 76, 3) := by decide +kernel
theorem d_Mo_add_1_30 : decode b_Mo_add_1 30 = .ok (.land, 1) := by decide +kernel
theorem d_Mo_add_1_31 : decode b_Mo_add_1 31 = .ok (.ladd, 1) := by decide +kernel
theorem d_Mo_add_1_32 : decode b_Mo_add_1 32 = .ok (.ladd, 1) := by decide +kernel
theorem d_Mo_add_1_33 : decode b_Mo_add_1 33 = .ok (.lstore_n 3, 1) := by decide +kernel
theorem d_Mo_add_1_34 : decode b_Mo_add_1 34 = .ok (.aload_n 0, 1) := by decide +kernel
theorem d_Mo_add_1_35 : decode b_Mo_add_1 35 = .ok (.iload 5, 2) := by decide +kernel
theorem d_Mo_add_1_37 : decode b_Mo_add_1 37 = .ok (.lload_n 3, 1) := by decide +kernel
theorem d_Mo_add_1_38 : decode b_Mo_add_1 38 = .ok (.l2i, 1) := by decide +kernel
theorem d_Mo_add_1_39 : decode b_Mo_add_1 39 = .ok (.iastore, 1) := by decide +kernel
theorem d_Mo_add_1_40 : decode b_Mo_add_1 40 = .ok (.lload_n 3, 1) := by decide +kernel
theorem d_Mo_add_1_41 : decode b_Mo_add_1 41 = .ok (.bipush 32, 2) := by decide +kernel
theorem d_Mo_add_1_43 : decode b_Mo_add_1 43 = .ok (.lushr, 1) := by decide +kernel
theorem d_Mo_add_1_44 : decode b_Mo_add_1 44 = .ok (.lstore_n 3, 1) := by decide +kernel
theorem d_Mo_add_1_45 : decode b_Mo_add_1 45 = .ok (.iinc 5 1, 3) := by decide +kernel
theorem d_Mo_add_1_48 : decode b_Mo_add_1 48 = .ok (.goto (-43), 3) := by decide +kernel
theorem d_Mo_add_1_51 : decode b_Mo_add_1 51 = .ok (.lload_n 3, 1) := by decide +kernel
theorem d_Mo_add_1_52 : decode b_Mo_add_1 52 = .ok (.l2i, 1) := by decide +kernel
theorem d_Mo_add_1_53 : decode b_Mo_add_1 53 = .ok (.ireturn, 1) := by decide +kernel
section
variable {p : Program} {l : Launch} {e : Env} {R : Room} {s : State} {m : MethodId} {args : Array Value} {below : List Frame} {meth : Method} {c : Code} {cells slots : Nat} {Q : State → Prop}
set_option maxHeartbeats 4000000 in
set_option maxRecDepth 100000 in
theorem lp_Mo_add_1 (hx : p.tables.exec = Jvm.exec) (hb : c.code = b_Mo_add_1) (hts : ∀ w ∈ w_Mo_add_1, w.before args s = true) (hown : s.vm.findClass R_Mo = some m.cls) {cI : ClassId} {H : Heap} {r a b R0 A B : Nat} (hT : ArrOfT s cI .int) (hsa : kq_sI s H a 8 A) (hsb : kq_sI s H b 8 B) (hr : H[r]? = some (kq_I cI 8 R0)) (hB : B < kw_M 8)
    (kk : ∀ (ls : Array Slot) (locs : List Loc), (∀ q ∈ locs, q.base = r) → lv_has ls 6 [(3, .long (lN (kw_c A B 8)))] → W p l e R s m args below meth c (kq_set H r (kq_I cI 8 ((A + B) % kw_M 8))) locs cells slots Q (F0 m 51 ls [])) :
    ∀ (n i V : Nat) (ls : Array Slot) (locs : List Loc), i + n = 8 → V < kw_M 8 → V % kw_M i = (A + B) % kw_M i → (∀ j, i ≤ j → j < 8 → kw_d V j = kw_d R0 j) → (∀ q ∈ locs, q.base = r) → lv_has ls 6 [(5, .int (nI i)), (3, .long (lN (kw_c A B i))), (0, .ref r), (1, .ref a), (2, .ref b)] → W p l e R s m args below meth c (kq_set H r (kq_I cI 8 V)) locs cells slots Q (F0 m 5 ls []) := by
  intro n
  induction n with
  | zero =>
    intro i V ls locs hn hV hlo hhi hlc hl
    obtain rfl : i = 8 := by omega
    refine lv_iload hx hb d_Mo_add_1_5 (lv_at hl 0 rfl) ?_
    refine lv_bipush (v := nI 8) hx hb d_Mo_add_1_7 (by decide) ?_
    refine lv_icmp_ge hx hb d_Mo_add_1_9 rfl (fun hc => ?_) (fun hc => ?_)
    · have e : V = (A + B) % kw_M 8 := by
        rw [Nat.mod_eq_of_lt hV] at hlo
        exact hlo
      rw [e]
      exact kk ls locs hlc (lv_sub hl [1] rfl)
    · exact absurd (nI_le (Nat.le_refl 8) (by decide)) hc
  | succ n ih =>
    intro i V ls locs hn hV hlo hhi hlc hl
    have hi : i < 8 := by omega
    obtain ⟨fa, ha1, ha2⟩ := kq_mixI hsa hT hr hhi hi
    obtain ⟨fb, hb1, hb2⟩ := kq_mixI hsb hT hr hhi hi
    have lA := kw_d_lt A i
    have lB := kw_d_lt B i
    have lC := kw_c_le A B i
    obtain ⟨st1, st2⟩ := kw_c_step A B i
    refine lv_iload hx hb d_Mo_add_1_5 (lv_at hl 0 rfl) ?_
    refine lv_bipush (v := nI 8) hx hb d_Mo_add_1_7 (by decide) ?_
    refine lv_icmp_ge hx hb d_Mo_add_1_9 rfl (fun hc => ?_) (fun hc => ?_)
    · exact absurd hc (nI_ge hi (by decide))
    · refine lv_lload_n hx hb d_Mo_add_1_12 rfl (lv_at hl 1 rfl) ?_
      refine lv_aload_n hx hb d_Mo_add_1_13 rfl (lv_at hl 3 rfl) ?_
      refine lv_iload hx hb d_Mo_add_1_14 (lv_at hl 0 rfl) ?_
      refine kq_iald hx hb (ha1) (hi) (by decide) (ha2) d_Mo_add_1_16 ?_
      refine lv_i2l (v := (nI (kw_d A i)).toInt64) hx hb d_Mo_add_1_17 (rfl) ?_
      refine lv_ldc2 hx hb hown (v := lN 4294967295) (hts _ (List.mem_cons_of_mem _ kt_w476)) d_Mo_add_1_18 ?_
      refine lv_land hx hb d_Mo_add_1_21 ?_
      refine kq_rl (show ((nI (kw_d A i)).toInt64) &&& (lN 4294967295) = lN (kw_d A i) from kx_maskN lA) ?_
      refine lv_aload_n hx hb d_Mo_add_1_22 rfl (lv_at hl 4 rfl) ?_
      refine lv_iload hx hb d_Mo_add_1_23 (lv_at hl 0 rfl) ?_
      refine kq_iald hx hb (hb1) (hi) (by decide) (hb2) d_Mo_add_1_25 ?_
      refine lv_i2l (v := (nI (kw_d B i)).toInt64) hx hb d_Mo_add_1_26 (rfl) ?_
      refine lv_ldc2 hx hb hown (v := lN 4294967295) (hts _ (List.mem_cons_of_mem _ kt_w476)) d_Mo_add_1_27 ?_
      refine lv_land hx hb d_Mo_add_1_30 ?_
      refine kq_rl (show ((nI (kw_d B i)).toInt64) &&& (lN 4294967295) = lN (kw_d B i) from kx_maskN lB) ?_
      refine lv_ladd hx hb d_Mo_add_1_31 ?_
      refine kq_rl (show (lN (kw_d A i)) + (lN (kw_d B i)) = lN (kw_d A i + kw_d B i) from lN_add _ _) ?_
      refine lv_ladd hx hb d_Mo_add_1_32 ?_
      refine kq_rl (show (lN (kw_c A B i)) + (lN (kw_d A i + kw_d B i)) = lN (kw_c A B i + (kw_d A i + kw_d B i)) from lN_add _ _) ?_
      refine lv_lstore_n hx hb d_Mo_add_1_33 rfl hl (by decide) rfl (fun ls hl => ?_)
      have hl : lv_has ls 6 [(3, .long (lN (kw_c A B i + (kw_d A i + kw_d B i)))), (5, .int (nI i)), (0, .ref r), (1, .ref a), (2, .ref b)] := hl
      refine lv_aload_n hx hb d_Mo_add_1_34 rfl (lv_at hl 2 rfl) ?_
      refine lv_iload hx hb d_Mo_add_1_35 (lv_at hl 1 rfl) ?_
      refine lv_lload_n hx hb d_Mo_add_1_37 rfl (lv_at hl 0 rfl) ?_
      refine lv_l2i (v := nI (kw_d (A + B) i)) hx hb d_Mo_add_1_38 (by rw [lN_i, nI_mod, ← st2]; congr 1; omega) ?_
      refine kq_iast hx hb (hT) (kq_set_at hr) (hi) (by decide) (kw_d_lt _ _) d_Mo_add_1_39 ?_
      refine kq_rH (kq_set_set _ _ _ _) ?_
      refine lv_lload_n hx hb d_Mo_add_1_40 rfl (lv_at hl 0 rfl) ?_
      refine lv_bipush (v := nI 32) hx hb d_Mo_add_1_41 (by decide) ?_
      refine lv_lushr (v := lN (kw_c A B (i + 1))) hx hb d_Mo_add_1_43 (by rw [kq_ushr32 (by omega), ← st1]; congr 1; omega) ?_
      refine lv_lstore_n hx hb d_Mo_add_1_44 rfl hl (by decide) rfl (fun ls hl => ?_)
      have hl : lv_has ls 6 [(3, .long (lN (kw_c A B (i + 1)))), (5, .int (nI i)), (0, .ref r), (1, .ref a), (2, .ref b)] := hl
      refine lv_iinc (k := 1) (v := nI (i + 1)) hx hb d_Mo_add_1_45 hl rfl (kq_inc i) (by decide) rfl (fun ls hl => ?_)
      have hl : lv_has ls 6 [(5, .int (nI (i + 1))), (3, .long (lN (kw_c A B (i + 1)))), (0, .ref r), (1, .ref a), (2, .ref b)] := hl
      refine lv_goto hx hb d_Mo_add_1_48 rfl ?_
      refine ih (i + 1) (kw_s V i (kw_d (A + B) i)) ls _ (by omega) (kw_s_lt hV hi (kw_d_lt _ _)) ?_ (fun j h1 h2 => ?_) (t_lc (free := fun q => q = r) hlc rfl) (lv_sub hl [0, 1, 2, 3, 4] rfl)
      · rw [kw_s_lo _ _ _ (kw_d_lt _ _), hlo, ← kw_d_lo]
      · rw [kw_d_ws_ne _ (kw_d_lt _ _) (by omega)]
        exact hhi j (by omega) h2
end
set_option maxHeartbeats 4000000 in
set_option maxRecDepth 100000 in
theorem c_Mo_add_1 (l : Launch) (H : Heap) (cI : ClassId) (r a b R0 A B : Nat) (hR : R0 < kw_M 8) (hA : A < kw_M 8) (hB : B < kw_M 8) (hr : H[r]? = some (kq_I cI 8 R0)) : Met l y_Mo_add_1 w_Mo_add_1 ({ frames := 0, cells := 0, slots := 0, locals := 0 }) (kq_P [.ref r, .ref a, .ref b] H (fun U => ArrOfT U cI .int ∧ kq_sI U H a 8 A ∧ kq_sI U H b 8 B)) (kq_Q (fun v H1 => v = some (.int (nI ((A + B) / kw_M 8))) ∧ H1 = kq_set H r (kq_I cI 8 ((A + B) % kw_M 8)))) 0 0 (fun q => q = r) := by
  refine Met.ofW (cc := b_Mo_add_1) (maxL := 6) (ret := (some .int)) (by decide) rfl ?_
  intro p e s m args below meth c s₁ B0 hml hv
  obtain ⟨rfl, hH, hT, hsa, hsb⟩ := hv
  have hx := B0.exec
  have hb := B0.bytes
  have hret := B0.returns
  have hts := atoms_spec (ws := w_Mo_add_1) B0.pre
  have hown : s.vm.findClass R_Mo = some m.cls := findClass_of_methodNamed B0.named
  have hlocks := B0.notSynchronized
  rw [hH]
  have hl := lv_entry ([.ref r, .ref a, .ref b]) (n := 6) (Nat.le_of_ble_eq_true rfl)
  rw [lg_entry_eq]
  generalize (lg_sl ([.ref r, .ref a, .ref b]) ++ List.replicate (6 - (lg_sl ([.ref r, .ref a, .ref b])).length) Slot.unset).toArray = ls at hl ⊢
  have hl : lv_has ls 6 [(0, .ref r), (1, .ref a), (2, .ref b)] := hl
  refine lv_lconst (v := lN 0) hx hb d_Mo_add_1_0 (by decide) ?_
  refine lv_lstore_n hx hb d_Mo_add_1_1 rfl hl (by decide) rfl (fun ls hl => ?_)
  have hl : lv_has ls 6 [(3, .long (lN 0)), (0, .ref r), (1, .ref a), (2, .ref b)] := hl
  refine lv_iconst (v := nI 0) hx hb d_Mo_add_1_2 (by decide) ?_
  refine lv_istore hx hb d_Mo_add_1_3 hl (by decide) rfl (fun ls hl => ?_)
  have hl : lv_has ls 6 [(5, .int (nI 0)), (3, .long (lN 0)), (0, .ref r), (1, .ref a), (2, .ref b)] := hl
  refine kq_rH (kq_set_self hr).symm ?_
  refine lp_Mo_add_1 hx hb hts hown hT hsa hsb hr hB (fun ls locs hlc hl => ?_) 8 0 R0 ls [] rfl hR (by rw [kw_M_0, Nat.mod_one, Nat.mod_one]) (fun _ _ _ => rfl) (fun q h => by cases h) ?_
  · refine lv_lload_n hx hb d_Mo_add_1_51 rfl (lv_at hl 0 rfl) ?_
    refine lv_l2i (v := nI ((A + B) / kw_M 8)) hx hb d_Mo_add_1_52 (by rw [lN_i, kw_c_end hA hB]) ?_
    exact W.iret hx hb hret (fun t ht _ => ⟨_, rfl, rfl, ht⟩) hlc d_Mo_add_1_53
  · rw [kw_c_0]
    exact lv_sub hl [0, 1, 2, 3, 4] rfl
theorem d_Mo_sub_0 : decode b_Mo_sub 0 = .ok (.lconst 0, 1) := by decide +kernel
theorem d_Mo_sub_1 : decode b_Mo_sub 1 = .ok (.lstore_n 3, 1) := by decide +kernel
theorem d_Mo_sub_2 : decode b_Mo_sub 2 = .ok (.iconst 0, 1) := by decide +kernel
theorem d_Mo_sub_3 : decode b_Mo_sub 3 = .ok (.istore 5, 2) := by decide +kernel
theorem d_Mo_sub_5 : decode b_Mo_sub 5 = .ok (.iload 5, 2) := by decide +kernel
theorem d_Mo_sub_7 : decode b_Mo_sub 7 = .ok (.bipush 8, 2) := by decide +kernel
theorem d_Mo_sub_9 : decode b_Mo_sub 9 = .ok (.if_icmp .ge 42, 3) := by decide +kernel
theorem d_Mo_sub_12 : decode b_Mo_sub 12 = .ok (.aload_n 1, 1) := by decide +kernel
theorem d_Mo_sub_13 : decode b_Mo_sub 13 = .ok (.iload 5, 2) := by decide +kernel
theorem d_Mo_sub_15 : decode b_Mo_sub 15 = .ok (.iaload, 1) := by decide +kernel
theorem d_Mo_sub_16 : decode b_Mo_sub 16 = .ok (.i2l, 1) := by decide +kernel
theorem d_Mo_sub_17 : decode b_Mo_sub 17 = .ok (.ldc2_w 76, 3) := by decide +kernel
theorem d_Mo_sub_20 : decode b_Mo_sub 20 = .ok (.land, 1) := by decide +kernel
theorem d_Mo_sub_21 : decode b_Mo_sub 21 = .ok (.aload_n 2, 1) := by decide +kernel
theorem d_Mo_sub_22 : decode b_Mo_sub 22 = .ok (.iload 5, 2) := by decide +kernel
theorem d_Mo_sub_24 : decode b_Mo_sub 24 = .ok (.iaload, 1) := by decide +kernel
theorem d_Mo_sub_25 : decode b_Mo_sub 25 = .ok (.i2l, 1) := by decide +kernel
theorem d_Mo_sub_26 : decode b_Mo_sub 26 = .ok (.ldc2_w 76, 3) := by decide +kernel
theorem d_Mo_sub_29 : decode b_Mo_sub 29 = .ok (.land, 1) := by decide +kernel
theorem d_Mo_sub_30 : decode b_Mo_sub 30 = .ok (.lsub, 1) := by decide +kernel
theorem d_Mo_sub_31 : decode b_Mo_sub 31 = .ok (.lload_n 3, 1) := by decide +kernel
theorem d_Mo_sub_32 : decode b_Mo_sub 32 = .ok (.ladd, 1) := by decide +kernel
theorem d_Mo_sub_33 : decode b_Mo_sub 33 = .ok (.lstore_n 3, 1) := by decide +kernel
theorem d_Mo_sub_34 : decode b_Mo_sub 34 = .ok (.aload_n 0, 1) := by decide +kernel
theorem d_Mo_sub_35 : decode b_Mo_sub 35 = .ok (.iload 5, 2) := by decide +kernel
theorem d_Mo_sub_37 : decode b_Mo_sub 37 = .ok (.lload_n 3, 1) := by decide +kernel
theorem d_Mo_sub_38 : decode b_Mo_sub 38 = .ok (.l2i, 1) := by decide +kernel
theorem d_Mo_sub_39 : decode b_Mo_sub 39 = .ok (.iastore, 1) := by decide +kernel
theorem d_Mo_sub_40 : decode b_Mo_sub 40 = .ok (.lload_n 3, 1) := by decide +kernel
theorem d_Mo_sub_41 : decode b_Mo_sub 41 = .ok (.bipush 32, 2) := by decide +kernel
theorem d_Mo_sub_43 : decode b_Mo_sub 43 = .ok (.lshr, 1) := by decide +kernel
theorem d_Mo_sub_44 : decode b_Mo_sub 44 = .ok (.lstore_n 3, 1) := by decide +kernel
theorem d_Mo_sub_45 : decode b_Mo_sub 45 = .ok (.iinc 5 1, 3) := by decide +kernel
theorem d_Mo_sub_48 : decode b_Mo_sub 48 = .ok (.goto (-43), 3) := by decide +kernel
theorem d_Mo_sub_51 : decode b_Mo_sub 51 = .ok (.lload_n 3, 1) := by decide +kernel
theorem d_Mo_sub_52 : decode b_Mo_sub 52 = .ok (.l2i, 1) := by decide +kernel
theorem d_Mo_sub_53 : decode b_Mo_sub 53 = .ok (.ireturn, 1) := by decide +kernel
section
variable {p : Program} {l : Launch} {e : Env} {R : Room} {s : State} {m : MethodId} {args : Array Value} {below : List Frame} {meth : Method} {c : Code} {cells slots : Nat} {Q : State → Prop}
set_option maxHeartbeats 4000000 in
set_option maxRecDepth 100000 in
theorem lp_Mo_sub (hx : p.tables.exec = Jvm.exec) (hb : c.code = b_Mo_sub) (hts : ∀ w ∈ w_Mo_sub, w.before args s = true) (hown : s.vm.findClass R_Mo = some m.cls) {cI : ClassId} {H : Heap} {r a b R0 A B : Nat} (hT : ArrOfT s cI .int) (hsa : kq_sI s H a 8 A) (hsb : kq_sI s H b 8 B) (hr : H[r]? = some (kq_I cI 8 R0)) (hB : B < kw_M 8)
    (kk : ∀ (ls : Array Slot) (locs : List Loc), (∀ q ∈ locs, q.base = r) → lv_has ls 6 [(3, .long (lN (18446744073709551616 - kw_b A B 8)))] → W p l e R s m args below meth c (kq_set H r (kq_I cI 8 (kw_sub A B))) locs cells slots Q (F0 m 51 ls [])) :
    ∀ (n i V : Nat) (ls : Array Slot) (locs : List Loc), i + n = 8 → V < kw_M 8 → V % kw_M i = kw_sub A B % kw_M i → (∀ j, i ≤ j → j < 8 → kw_d V j = kw_d R0 j) → (∀ q ∈ locs, q.base = r) → lv_has ls 6 [(5, .int (nI i)), (3, .long (lN (18446744073709551616 - kw_b A B i))), (0, .ref r), (1, .ref a), (2, .ref b)] → W p l e R s m args below meth c (kq_set H r (kq_I cI 8 V)) locs cells slots Q (F0 m 5 ls []) := by
  intro n
  induction n with
  | zero =>
    intro i V ls locs hn hV hlo hhi hlc hl
    obtain rfl : i = 8 := by omega
    refine lv_iload hx hb d_Mo_sub_5 (lv_at hl 0 rfl) ?_
    refine lv_bipush (v := nI 8) hx hb d_Mo_sub_7 (by decide) ?_
    refine lv_icmp_ge hx hb d_Mo_sub_9 rfl (fun hc => ?_) (fun hc => ?_)
    · have e : V = kw_sub A B := by
        rw [Nat.mod_eq_of_lt hV, Nat.mod_eq_of_lt (kw_sub_lt A B)] at hlo
        exact hlo
      rw [e]
      exact kk ls locs hlc (lv_sub hl [1] rfl)
    · exact absurd (nI_le (Nat.le_refl 8) (by decide)) hc
  | succ n ih =>
    intro i V ls locs hn hV hlo hhi hlc hl
    have hi : i < 8 := by omega
    obtain ⟨fa, ha1, ha2⟩ := kq_mixI hsa hT hr hhi hi
    obtain ⟨fb, hb1, hb2⟩ := kq_mixI hsb hT hr hhi hi
    have lA := kw_d_lt A i
    have lB := kw_d_lt B i
    have lC := kw_b_le A B i
    have st1 := kw_b_step A B i
    have st2 := kw_sub_word (A := A) hB hi
    refine lv_iload hx hb d_Mo_sub_5 (lv_at hl 0 rfl) ?_
    refine lv_bipush (v := nI 8) hx hb d_Mo_sub_7 (by decide) ?_
    refine lv_icmp_ge hx hb d_Mo_sub_9 rfl (fun hc => ?_) (fun hc => ?_)
    · exact absurd hc (nI_ge hi (by decide))
    · refine lv_aload_n hx hb d_Mo_sub_12 rfl (lv_at hl 3 rfl) ?_
      refine lv_iload hx hb d_Mo_sub_13 (lv_at hl 0 rfl) ?_
      refine kq_iald hx hb (ha1) (hi) (by decide) (ha2) d_Mo_sub_15 ?_
      refine lv_i2l (v := (nI (kw_d A i)).toInt64) hx hb d_Mo_sub_16 (rfl) ?_
      refine lv_ldc2 hx hb hown (v := lN 4294967295) (hts _ (List.mem_cons_of_mem _ kt_w476)) d_Mo_sub_17 ?_
      refine lv_land hx hb d_Mo_sub_20 ?_
      refine kq_rl (show ((nI (kw_d A i)).toInt64) &&& (lN 4294967295) = lN (kw_d A i) from kx_maskN lA) ?_
      refine lv_aload_n hx hb d_Mo_sub_21 rfl (lv_at hl 4 rfl) ?_
      refine lv_iload hx hb d_Mo_sub_22 (lv_at hl 0 rfl) ?_
      refine kq_iald hx hb (hb1) (hi) (by decide) (hb2) d_Mo_sub_24 ?_
      refine lv_i2l (v := (nI (kw_d B i)).toInt64) hx hb d_Mo_sub_25 (rfl) ?_
      refine lv_ldc2 hx hb hown (v := lN 4294967295) (hts _ (List.mem_cons_of_mem _ kt_w476)) d_Mo_sub_26 ?_
      refine lv_land hx hb d_Mo_sub_29 ?_
      refine kq_rl (show ((nI (kw_d B i)).toInt64) &&& (lN 4294967295) = lN (kw_d B i) from kx_maskN lB) ?_
      refine lv_lsub hx hb d_Mo_sub_30 ?_
      refine kq_rl (show (lN (kw_d A i)) - (lN (kw_d B i)) = lN (kw_d A i + 18446744073709551616 - kw_d B i) from kq_lsub (by omega)) ?_
      refine lv_lload_n hx hb d_Mo_sub_31 rfl (lv_at hl 1 rfl) ?_
      refine lv_ladd hx hb d_Mo_sub_32 ?_
      refine kq_rl (show (lN (kw_d A i + 18446744073709551616 - kw_d B i)) + (lN (18446744073709551616 - kw_b A B i)) = lN (kw_d A i + 18446744073709551616 - kw_d B i + (18446744073709551616 - kw_b A B i)) from lN_add _ _) ?_
      refine lv_lstore_n hx hb d_Mo_sub_33 rfl hl (by decide) rfl (fun ls hl => ?_)
      have hl : lv_has ls 6 [(3, .long (lN (kw_d A i + 18446744073709551616 - kw_d B i + (18446744073709551616 - kw_b A B i)))), (5, .int (nI i)), (0, .ref r), (1, .ref a), (2, .ref b)] := hl
      refine lv_aload_n hx hb d_Mo_sub_34 rfl (lv_at hl 2 rfl) ?_
      refine lv_iload hx hb d_Mo_sub_35 (lv_at hl 1 rfl) ?_
      refine lv_lload_n hx hb d_Mo_sub_37 rfl (lv_at hl 0 rfl) ?_
      refine lv_l2i (v := nI (kw_d (kw_sub A B) i)) hx hb d_Mo_sub_38 (by rw [lN_i, nI_mod, ← st2]; congr 1; omega) ?_
      refine kq_iast hx hb (hT) (kq_set_at hr) (hi) (by decide) (kw_d_lt _ _) d_Mo_sub_39 ?_
      refine kq_rH (kq_set_set _ _ _ _) ?_
      refine lv_lload_n hx hb d_Mo_sub_40 rfl (lv_at hl 0 rfl) ?_
      refine lv_bipush (v := nI 32) hx hb d_Mo_sub_41 (by decide) ?_
      refine lv_lshr (v := lN (18446744073709551616 - kw_b A B (i + 1))) hx hb d_Mo_sub_43 (by rw [kx_sar lA lB lC, st1]) ?_
      refine lv_lstore_n hx hb d_Mo_sub_44 rfl hl (by decide) rfl (fun ls hl => ?_)
      have hl : lv_has ls 6 [(3, .long (lN (18446744073709551616 - kw_b A B (i + 1)))), (5, .int (nI i)), (0, .ref r), (1, .ref a), (2, .ref b)] := hl
      refine lv_iinc (k := 1) (v := nI (i + 1)) hx hb d_Mo_sub_45 hl rfl (kq_inc i) (by decide) rfl (fun ls hl => ?_)
      have hl : lv_has ls 6 [(5, .int (nI (i + 1))), (3, .long (lN (18446744073709551616 - kw_b A B (i + 1)))), (0, .ref r), (1, .ref a), (2, .ref b)] := hl
      refine lv_goto hx hb d_Mo_sub_48 rfl ?_
      refine ih (i + 1) (kw_s V i (kw_d (kw_sub A B) i)) ls _ (by omega) (kw_s_lt hV hi (kw_d_lt _ _)) ?_ (fun j h1 h2 => ?_) (t_lc (free := fun q => q = r) hlc rfl) (lv_sub hl [0, 1, 2, 3, 4] rfl)
      · rw [kw_s_lo _ _ _ (kw_d_lt _ _), hlo, ← kw_d_lo]
      · rw [kw_d_ws_ne _ (kw_d_lt _ _) (by omega)]
        exact hhi j (by omega) h2
end
set_option maxHeartbeats 4000000 in
set_option maxRecDepth 100000 in
theorem c_Mo_sub (l : Launch) (H : Heap) (cI : ClassId) (r a b R0 A B : Nat) (hR : R0 < kw_M 8) (hA : A < kw_M 8) (hB : B < kw_M 8) (hr : H[r]? = some (kq_I cI 8 R0)) : Met l y_Mo_sub w_Mo_sub ({ frames := 0, cells := 0, slots := 0, locals := 0 }) (kq_P [.ref r, .ref a, .ref b] H (fun U => ArrOfT U cI .int ∧ kq_sI U H a 8 A ∧ kq_sI U H b 8 B)) (kq_Q (fun v H1 => v = some (.int (nI (18446744073709551616 - (if A < B then 1 else 0)))) ∧ H1 = kq_set H r (kq_I cI 8 (kw_sub A B)))) 0 0 (fun q => q = r) := by
  refine Met.ofW (cc := b_Mo_sub) (maxL := 6) (ret := (some .int)) (by decide) rfl ?_
  intro p e s m args below meth c s₁ B0 hml hv
  obtain ⟨rfl, hH, hT, hsa, hsb⟩ := hv
  have hx := B0.exec
  have hb := B0.bytes
  have hret := B0.returns
  have hts := atoms_spec (ws := w_Mo_sub) B0.pre
  have hown : s.vm.findClass R_Mo = some m.cls := findClass_of_methodNamed B0.named
  have hlocks := B0.notSynchronized
  rw [hH]
  have hl := lv_entry ([.ref r, .ref a, .ref b]) (n := 6) (Nat.le_of_ble_eq_true rfl)
  rw [lg_entry_eq]
  generalize (lg_sl ([.ref r, .ref a, .ref b]) ++ List.replicate (6 - (lg_sl ([.ref r, .ref a, .ref b])).length) Slot.unset).toArray = ls at hl ⊢
  have hl : lv_has ls 6 [(0, .ref r), (1, .ref a), (2, .ref b)] := hl
  refine lv_lconst (v := lN 0) hx hb d_Mo_sub_0 (by decide) ?_
  refine lv_lstore_n hx hb d_Mo_sub_1 rfl hl (by decide) rfl (fun ls hl => ?_)
  have hl : lv_has ls 6 [(3, .long (lN 0)), (0, .ref r), (1, .ref a), (2, .ref b)] := hl
  refine lv_iconst (v := nI 0) hx hb d_Mo_sub_2 (by decide) ?_
  refine lv_istore hx hb d_Mo_sub_3 hl (by decide) rfl (fun ls hl => ?_)
  have hl : lv_has ls 6 [(5, .int (nI 0)), (3, .long (lN 0)), (0, .ref r), (1, .ref a), (2, .ref b)] := hl
  refine kq_rH (kq_set_self hr).symm ?_
  refine lp_Mo_sub hx hb hts hown hT hsa hsb hr hB (fun ls locs hlc hl => ?_) 8 0 R0 ls [] rfl hR (by rw [kw_M_0, Nat.mod_one, Nat.mod_one]) (fun _ _ _ => rfl) (fun q h => by cases h) ?_
  · refine lv_lload_n hx hb d_Mo_sub_51 rfl (lv_at hl 0 rfl) ?_
    refine lv_l2i (v := nI (18446744073709551616 - (if A < B then 1 else 0))) hx hb d_Mo_sub_52 (by rw [lN_i, kw_b_end hA hB]) ?_
    exact W.iret hx hb hret (fun t ht _ => ⟨_, rfl, rfl, ht⟩) hlc d_Mo_sub_53
  · rw [kw_b_0, show lN (18446744073709551616 - 0) = lN 0 by decide +kernel]
    exact lv_sub hl [0, 1, 2, 3, 4] rfl
end
section
/-! KeyCurveModel: half (own rows). -/
theorem kw_half (X j : Nat) : kw_d (X / 2) j = kw_d X j / 2 + kw_d X (j + 1) % 2 * 2147483648 := by
  have e1 : X / 2 / kw_M j = X / kw_M j / 2 := by rw [Nat.div_div_eq_div_mul, Nat.mul_comm, ← Nat.div_div_eq_div_mul]
  have e2 : X / kw_M (j + 1) = X / kw_M j / 4294967296 := by rw [kw_M_s, Nat.div_div_eq_div_mul]
  unfold kw_d
  rw [e1, e2]
  generalize X / kw_M j = y
  omega
theorem kx_or {a b : Nat} (ha : a < 4294967296) (hb : b < 4294967296) : nI a ||| nI b = nI (a ||| b) := by
  apply Int32.toBitVec_inj.mp
  rw [Int32.toBitVec_or]
  apply BitVec.eq_of_toNat_eq
  rw [BitVec.toNat_or, kx_nt ha, kx_nt hb, kx_nt (Nat.or_lt_two_pow (n := 32) ha hb)]
theorem kx_shl31 {u : Nat} (h : u < 4294967296) : nI u <<< (nI 31 &&& 31) = nI (u % 2 * 2147483648) := by
  apply Int32.toBitVec_inj.mp
  apply BitVec.eq_of_toNat_eq
  rw [pk_shl (nI u) (nI 31 &&& 31) 31 (by decide +kernel), kx_nt h, kx_nt (by omega)]
  omega
theorem kx_word {w u : Nat} (hw : w < 4294967296) : nI (w / 2) ||| nI (u % 2 * 2147483648) = nI (w / 2 + u % 2 * 2147483648) := by
  rw [kx_or (by omega) (by omega)]
  congr 1
  have h := Nat.shiftLeft_add_eq_or_of_lt (i := 31) (b := w / 2) (show w / 2 < 2 ^ 31 by omega) (u % 2)
  rw [Nat.shiftLeft_eq] at h
  rw [Nat.or_comm, show (2147483648 : Nat) = 2 ^ 31 by decide, ← h]
  omega
theorem kx_ushr1 {w : Nat} (h : w < 4294967296) : ((nI w).toUInt32 >>> ((nI 1).toUInt32 &&& Int32.toUInt32 31)).toInt32 = nI (w / 2) := pk_ushrN (by omega) _ 1 (by decide +kernel)
theorem kw_top {A tp : Nat} (hA : A < kw_M 8) (ht : tp ≤ 1) : kw_d (A + kw_M 8 * tp) 8 = tp := by
  unfold kw_d
  rw [Nat.add_mul_div_left _ _ (kw_M_pos 8), Nat.div_eq_of_lt hA, Nat.zero_add, Nat.mod_eq_of_lt (by omega)]
theorem d_Mo_half_0 : decode b_Mo_half 0 = .ok (.iconst 0, 1) := by decide +kernel
theorem d_Mo_half_1 : decode b_Mo_half 1 = .ok (.istore_n 2, 1) := by decide +kernel
theorem d_Mo_half_2 : decode b_Mo_half 2 = .ok (.iload_n 2, 1) := by decide +kernel
theorem d_Mo_half_3 : decode b_Mo_half 3 = .ok (.bipush 8, 2) := by decide +kernel
theorem d_Mo_half_5 : decode b_Mo_half 5 = .ok (.if_icmp .ge 36, 3) := by decide +kernel
theorem d_Mo_half_8 : decode b_Mo_half 8 = .ok (.aload_n 0, 1) := by decide +kernel
theorem d_Mo_half_9 : decode b_Mo_half 9 = .ok (.iload_n 2, 1) := by decide +kernel
theorem d_Mo_half_10 : decode b_Mo_half 10 = .ok (.aload_n 0, 1) := by decide +kernel
theorem d_Mo_half_11 : decode b_Mo_half 11 = .ok (.iload_n 2, 1) := by decide +kernel
theorem d_Mo_half_12 : decode b_Mo_half 12 = .ok (.iaload, 1) := by decide +kernel
theorem d_Mo_half_13 : decode b_Mo_half 13 = .ok (.iconst 1, 1) := by decide +kernel
theorem d_Mo_half_14 : decode b_Mo_half 14 = .ok (.iushr, 1) := by decide +kernel
theorem d_Mo_half_15 : decode b_Mo_half 15 = .ok (.iload_n 2, 1) := by decide +kernel
theorem d_Mo_half_16 : decode b_Mo_half 16 = .ok (.bipush 7, 2) := by decide +kernel
theorem d_Mo_half_18 : decode b_Mo_half 18 = .ok (.if_icmp .ge 11, 3) := by decide +kernel
theorem d_Mo_half_21 : decode b_Mo_half 21 = .ok (.aload_n 0, 1) := by decide +kernel
theorem d_Mo_half_22 : decode b_Mo_half 22 = .ok (.iload_n 2, 1) := by decide +kernel
theorem d_Mo_half_23 : decode b_Mo_half 23 = .ok (.iconst 1, 1) := by decide +kernel
theorem d_Mo_half_24 : decode b_Mo_half 24 = .ok (.iadd, 1) := by decide +kernel
theorem d_Mo_half_25 : decode b_Mo_half 25 = .ok (.iaload, 1) := by decide +kernel
theorem d_Mo_half_26 : decode b_Mo_half 26 = .ok (.goto 4, 3) := by decide +kernel
theorem d_Mo_half_29 : decode b_Mo_half 29 = .ok (.iload_n 1, 1) := by decide +kernel
theorem d_Mo_half_30 : decode b_Mo_half 30 = .ok (.bipush 31, 2) := by decide +kernel
theorem d_Mo_half_32 : decode b_Mo_half 32 = .ok (.ishl, 1) := by decide +kernel
theorem d_Mo_half_33 : decode b_Mo_half 33 = .ok (.ior, 1) := by decide +kernel
theorem d_Mo_half_34 : decode b_Mo_half 34 = .ok (.iastore, 1) := by decide +kernel
theorem d_Mo_half_35 : decode b_Mo_half 35 = .ok (.iinc 2 1, 3) := by decide +kernel
theorem d_Mo_half_38 : decode b_Mo_half 38 = .ok (.goto (-36), 3) := by decide +kernel
theorem d_Mo_half_41 : decode b_Mo_half 41 = .ok (.return_, 1) := by decide +kernel
section
variable {p : Program} {l : Launch} {e : Env} {R : Room} {s : State} {m : MethodId} {args : Array Value} {below : List Frame} {meth : Method} {c : Code} {cells slots : Nat} {Q : State → Prop}
set_option maxHeartbeats 4000000 in
set_option maxRecDepth 100000 in
theorem lp_Mo_half (hx : p.tables.exec = Jvm.exec) (hb : c.code = b_Mo_half) {cI : ClassId} {H : Heap} {a A tp : Nat} (hT : ArrOfT s cI .int) (hr : H[a]? = some (kq_I cI 8 A)) (hA : A < kw_M 8) (htp : tp ≤ 1)
    (kk : ∀ (V : Nat) (ls : Array Slot) (locs : List Loc), V < kw_M 8 → (∀ j, j < 8 → kw_d V j = kw_d ((A + kw_M 8 * tp) / 2) j) → (∀ q ∈ locs, q.base = a) → W p l e R s m args below meth c (kq_set H a (kq_I cI 8 V)) locs cells slots Q (F0 m 41 ls [])) :
    ∀ (n i V : Nat) (ls : Array Slot) (locs : List Loc), i + n = 8 → V < kw_M 8 → (∀ j, j < i → kw_d V j = kw_d ((A + kw_M 8 * tp) / 2) j) → (∀ j, i ≤ j → j < 8 → kw_d V j = kw_d A j) → (∀ q ∈ locs, q.base = a) → lv_has ls 3 [(2, .int (nI i)), (0, .ref a), (1, .int (nI tp))] → W p l e R s m args below meth c (kq_set H a (kq_I cI 8 V)) locs cells slots Q (F0 m 2 ls []) := by
  intro n
  induction n with
  | zero =>
    intro i V ls locs hn hV h1 h2 hlc hl
    obtain rfl : i = 8 := by omega
    refine lv_iload_n hx hb d_Mo_half_2 rfl (lv_at hl 0 rfl) ?_
    refine lv_bipush (v := nI 8) hx hb d_Mo_half_3 (by decide) ?_
    refine lv_icmp_ge hx hb d_Mo_half_5 rfl (fun hc => ?_) (fun hc => ?_)
    · exact kk V ls locs hV h1 hlc
    · exact absurd (nI_le (Nat.le_refl 8) (by decide)) hc
  | succ n ih =>
    intro i V ls locs hn hV h1 h2 hlc hl
    have hi : i < 8 := by omega
    have hrow := kq_set_at (x := kq_I cI 8 V) hr
    have hsv : kq_r s .int (kq_set H a (kq_I cI 8 V)) a 8 (fun j => .int (nI (kw_d V j))) := kq_r.ofV hT hrow
    have lA := kw_d_lt A i
    have eA : kw_d V i = kw_d A i := h2 i (Nat.le_refl i) hi
    have hX : ∀ j, j < 8 → kw_d (A + kw_M 8 * tp) j = kw_d A j := fun j hj => kw_d_add_hi A tp hj
    have hw := kw_half (A + kw_M 8 * tp) i
    rw [hX i hi] at hw
    have lX := kw_d_lt ((A + kw_M 8 * tp) / 2) i
    refine lv_iload_n hx hb d_Mo_half_2 rfl (lv_at hl 0 rfl) ?_
    refine lv_bipush (v := nI 8) hx hb d_Mo_half_3 (by decide) ?_
    refine lv_icmp_ge hx hb d_Mo_half_5 rfl (fun hc => ?_) (fun hc => ?_)
    · exact absurd hc (nI_ge hi (by decide))
    · refine lv_aload_n hx hb d_Mo_half_8 rfl (lv_at hl 1 rfl) ?_
      refine lv_iload_n hx hb d_Mo_half_9 rfl (lv_at hl 0 rfl) ?_
      refine lv_aload_n hx hb d_Mo_half_10 rfl (lv_at hl 1 rfl) ?_
      refine lv_iload_n hx hb d_Mo_half_11 rfl (lv_at hl 0 rfl) ?_
      refine kq_iald hx hb (hsv) (hi) (by decide) (by rw [eA]) d_Mo_half_12 ?_
      refine lv_iconst (v := nI 1) hx hb d_Mo_half_13 (by decide) ?_
      refine lv_iushr (v := nI (kw_d A i / 2)) hx hb d_Mo_half_14 (kx_ushr1 lA) ?_
      refine lv_iload_n hx hb d_Mo_half_15 rfl (lv_at hl 0 rfl) ?_
      refine lv_bipush (v := nI 7) hx hb d_Mo_half_16 (by decide) ?_
      refine lv_icmp_ge hx hb d_Mo_half_18 rfl (fun hc7 => ?_) (fun hc7 => ?_)
      · have i7 : i = 7 := by
          have q := (nI_leI (a := 7) (b := i) (by decide) (by omega)).mp hc7
          omega
        subst i7
        refine lv_iload_n hx hb d_Mo_half_29 rfl (lv_at hl 2 rfl) ?_
        refine lv_bipush (v := nI 31) hx hb d_Mo_half_30 (by decide) ?_
        refine lv_ishl hx hb d_Mo_half_32 ?_
        refine kq_ri (show nI tp <<< (nI 31 &&& 31) = nI (tp % 2 * 2147483648) from kx_shl31 (by omega)) ?_
        refine lv_ior hx hb d_Mo_half_33 ?_
        refine kq_ri (show (nI (kw_d A 7 / 2)) ||| (nI (tp % 2 * 2147483648)) = nI (kw_d ((A + kw_M 8 * tp) / 2) 7) from (by rw [kx_word lA, hw, kw_top hA htp])) ?_
        refine kq_iast hx hb (hT) (hrow) (hi) (by decide) (lX) d_Mo_half_34 ?_
        refine kq_rH (kq_set_set _ _ _ _) ?_
        refine lv_iinc (k := 0) (v := nI (7 + 1)) hx hb d_Mo_half_35 hl rfl (kq_inc 7) (by decide) rfl (fun ls hl => ?_)
        have hl : lv_has ls 3 [(2, .int (nI (7 + 1))), (0, .ref a), (1, .int (nI tp))] := hl
        refine lv_goto hx hb d_Mo_half_38 rfl ?_
        refine ih (7 + 1) (kw_s V 7 (kw_d ((A + kw_M 8 * tp) / 2) 7)) ls _ (by omega) (kw_s_lt hV hi lX) (fun j hj => ?_) (fun j g1 g2 => ?_) (t_lc (free := fun q => q = a) hlc rfl) (lv_sub hl [0, 1, 2] rfl)
        · by_cases e : j = 7
          · subst e
            rw [kw_d_ws_same _ _ lX]
          · rw [kw_d_ws_ne _ lX e]
            exact h1 j (by omega)
        · rw [kw_d_ws_ne _ lX (by omega)]
          exact h2 j (by omega) g2
      · have i7 : i < 7 := by
          apply Classical.byContradiction
          intro q
          exact hc7 (nI_le (show 7 ≤ i by omega) (by omega))
        have eA1 : kw_d V (i + 1) = kw_d A (i + 1) := h2 (i + 1) (by omega) (by omega)
        have lA1 := kw_d_lt A (i + 1)
        refine lv_aload_n hx hb d_Mo_half_21 rfl (lv_at hl 1 rfl) ?_
        refine lv_iload_n hx hb d_Mo_half_22 rfl (lv_at hl 0 rfl) ?_
        refine lv_iconst (v := nI 1) hx hb d_Mo_half_23 (by decide) ?_
        refine lv_iadd hx hb d_Mo_half_24 ?_
        refine kq_ri (show (nI i) + (nI 1) = nI (i + 1) from nI_add _ _) ?_
        refine kq_iald hx hb (hsv) ((by omega)) (by decide) (by rw [eA1]) d_Mo_half_25 ?_
        refine lv_goto hx hb d_Mo_half_26 rfl ?_
        refine lv_bipush (v := nI 31) hx hb d_Mo_half_30 (by decide) ?_
        refine lv_ishl hx hb d_Mo_half_32 ?_
        refine kq_ri (show nI (kw_d A (i + 1)) <<< (nI 31 &&& 31) = nI (kw_d A (i + 1) % 2 * 2147483648) from kx_shl31 (lA1)) ?_
        refine lv_ior hx hb d_Mo_half_33 ?_
        refine kq_ri (show (nI (kw_d A i / 2)) ||| (nI (kw_d A (i + 1) % 2 * 2147483648)) = nI (kw_d ((A + kw_M 8 * tp) / 2) i) from (by rw [kx_word lA, hw, hX (i + 1) (by omega)])) ?_
        refine kq_iast hx hb (hT) (hrow) (hi) (by decide) (lX) d_Mo_half_34 ?_
        refine kq_rH (kq_set_set _ _ _ _) ?_
        refine lv_iinc (k := 0) (v := nI (i + 1)) hx hb d_Mo_half_35 hl rfl (kq_inc i) (by decide) rfl (fun ls hl => ?_)
        have hl : lv_has ls 3 [(2, .int (nI (i + 1))), (0, .ref a), (1, .int (nI tp))] := hl
        refine lv_goto hx hb d_Mo_half_38 rfl ?_
        refine ih (i + 1) (kw_s V i (kw_d ((A + kw_M 8 * tp) / 2) i)) ls _ (by omega) (kw_s_lt hV hi lX) (fun j hj => ?_) (fun j g1 g2 => ?_) (t_lc (free := fun q => q = a) hlc rfl) (lv_sub hl [0, 1, 2] rfl)
        · by_cases e : j = i
          · subst e
            rw [kw_d_ws_same _ _ lX]
          · rw [kw_d_ws_ne _ lX e]
            exact h1 j (by omega)
        · rw [kw_d_ws_ne _ lX (by omega)]
          exact h2 j (by omega) g2
end
set_option maxHeartbeats 4000000 in
set_option maxRecDepth 100000 in
theorem c_Mo_half (l : Launch) (H : Heap) (cI : ClassId) (a A tp : Nat) (hA : A < kw_M 8) (htp : tp ≤ 1) (hr : H[a]? = some (kq_I cI 8 A)) : Met l y_Mo_half w_Mo_half ({ frames := 0, cells := 0, slots := 0, locals := 0 }) (kq_P [.ref a, .int (nI tp)] H (fun U => ArrOfT U cI .int)) (kq_Q (fun v H1 => v = none ∧ H1 = kq_set H a (kq_I cI 8 ((A + kw_M 8 * tp) / 2)))) 0 0 (fun q => q = a) := by
  refine Met.ofW (cc := b_Mo_half) (maxL := 3) (ret := none) (by decide) rfl ?_
  intro p e s m args below meth c s₁ B0 hml hv
  obtain ⟨rfl, hH, hT⟩ := hv
  have hx := B0.exec
  have hb := B0.bytes
  have hret := B0.returns
  have hts := atoms_spec (ws := w_Mo_half) B0.pre
  have hown : s.vm.findClass R_Mo = some m.cls := findClass_of_methodNamed B0.named
  have hlocks := B0.notSynchronized
  rw [hH]
  have hl := lv_entry ([.ref a, .int (nI tp)]) (n := 3) (Nat.le_of_ble_eq_true rfl)
  rw [lg_entry_eq]
  generalize (lg_sl ([.ref a, .int (nI tp)]) ++ List.replicate (3 - (lg_sl ([.ref a, .int (nI tp)])).length) Slot.unset).toArray = ls at hl ⊢
  have hl : lv_has ls 3 [(0, .ref a), (1, .int (nI tp))] := hl
  refine lv_iconst (v := nI 0) hx hb d_Mo_half_0 (by decide) ?_
  refine lv_istore_n hx hb d_Mo_half_1 rfl hl (by decide) rfl (fun ls hl => ?_)
  have hl : lv_has ls 3 [(2, .int (nI 0)), (0, .ref a), (1, .int (nI tp))] := hl
  refine kq_rH (kq_set_self hr).symm ?_
  refine lp_Mo_half hx hb hT hr hA htp (fun V ls locs hV h1 hlc => ?_) 8 0 A ls [] rfl hA (fun j hj => by omega) (fun _ _ _ => rfl) (fun q h => by cases h) (lv_sub hl [0, 1, 2] rfl)
  have e : V = ((A + kw_M 8 * tp) / 2) := by
    refine kw_d_eq hV ?_ h1
    have q : kw_M 8 * tp ≤ kw_M 8 * 1 := Nat.mul_le_mul (Nat.le_refl _) htp
    omega
  rw [e]
  exact W.vret hx hb hret (fun t ht _ => ⟨_, rfl, rfl, ht⟩) hlc d_Mo_half_41
end
section
/-! KeyCurveModel: its world; minus, plus, multiply of rows (own rows). -/
def ks_Z (E : ks_E) (A : Nat → Nat) (U : State) : Prop := va_Z "KeyCurveModel" "P" "[I" (.ref (A 0)) (ks_L E) U (ks_H E) ∧ va_Z "KeyCurveModel" "N" "[I" (.ref (A 1)) (ks_L E) U (ks_H E) ∧ va_Z "KeyCurveModel" "GX" "[I" (.ref (A 2)) (ks_L E) U (ks_H E) ∧ va_Z "KeyCurveModel" "GY" "[I" (.ref (A 3)) (ks_L E) U (ks_H E)
theorem ks_Z_st (E : ks_E) (A : Nat → Nat) : kq_st (ks_Z E A) := fun _ _ hv q => ⟨q.1.moved hv, q.2.1.moved hv, q.2.2.1.moved hv, q.2.2.2.moved hv⟩
def ks_A (E : ks_E) (A : Nat → Nat) : Prop := (ks_S E (A 0) ∧ ks_v E (A 0) = kP) ∧ (ks_S E (A 1) ∧ ks_v E (A 1) = kN) ∧ (ks_S E (A 2) ∧ ks_v E (A 2) = kX_G) ∧ (ks_S E (A 3) ∧ ks_v E (A 3) = kY_G)
def ks_C (E : ks_E) (A : Nat → Nat) (U : State) : Prop := ks_B E U ∧ ks_Z E A U
theorem ks_C_st (E : ks_E) (A : Nat → Nat) : kq_st (ks_C E A) := (ks_st E).both (ks_Z_st E A)
/-- the model's object at mo, its flag isFar, its rows behind it -/
def ks_O (E : ks_E) (mo : Nat) (far : Bool) : Prop := va_P (ks_D E) kr_cl [(mo, .inr (4, [.ref (mo + 1), .ref (mo + 6), .ref (mo + 11), .ref (mo + 16), .ref (mo + 17), .ref (mo + 18), .ref (mo + 19), .ref (mo + 20), .ref (mo + 21), .ref (mo + 22), .ref (mo + 23), .ref (mo + 24), .ref (mo + 25), .ref (mo + 26), .ref (mo + 27), .ref (mo + 28), .ref (mo + 29), .int (kq_z far), .ref (mo + 30), .ref (mo + 31)]))] (ks_H E) ∧ ¬ ks_L E mo ∧ (∀ k, 18 ≤ k → k ≤ 31 → k ≠ 21 → ks_out E (mo + k)) ∧ (ks_L E (mo + 21) ∧ ks_n E (mo + 21) = 16) ∧ (ks_S E (mo + 17) ∧ ks_v E (mo + 17) = 1)
theorem ks_zat {E : ks_E} {w : Nat → Nat} {H : Heap} {s : State} {C n d : String} {v : Value} (hW : ks_W E w H) (hZ : va_Z C n d v (ks_L E) s (ks_H E)) : va_Z C n d v (ks_L E) s H := hZ.kept (fun a _ hn => hW.2.2.1 a hn)
theorem ks_cst {E : ks_E} {w : Nat → Nat} {H : Heap} {a X : Nat} (hW : ks_W E w H) (h : ks_S E a ∧ ks_v E a = X) : w a = X := by
  rw [hW.2.2.2.2 a h.1]
  exact h.2
theorem kP_M8 : kP < kw_M 8 ∧ kw_M 8 < 2 * kP := by decide +kernel
theorem kx_minus {A B : Nat} (hA : A < kP) (hB : B < kP) : (if A < B then (kw_sub A B + kP) % kw_M 8 else kw_sub A B) = kp_dif kP A B := by
  have h8 := kP_M8
  have hp : kP = 115792089237316195423570985008687907853269984665640564039457584007908834671663 := rfl
  unfold kp_dif kw_sub
  rw [Nat.mod_eq_of_lt hB]
  rw [kw_M_8] at *
  rw [hp] at hA hB ⊢
  split <;> omega
theorem kx_plus {A B : Nat} (hA : A < kP) (hB : B < kP) : (if (A + B) / kw_M 8 = 1 ∨ kP ≤ (A + B) % kw_M 8 then kw_sub ((A + B) % kw_M 8) kP else (A + B) % kw_M 8) = (A + B) % kP := by
  have h8 := kP_M8
  have hp : kP = 115792089237316195423570985008687907853269984665640564039457584007908834671663 := rfl
  unfold kw_sub
  rw [kw_M_8] at *
  rw [hp] at hA hB ⊢
  split <;> omega
theorem ks_in_ne {E : ks_E} {mo a : Nat} {far : Bool} (hE : ks_ok E) (hO : ks_O E mo far) (ha : ks_in E a) : a ≠ mo + 21 := by
  intro e
  subst e
  have hw := hO.2.2.2.1
  rcases ha with ⟨-, h2⟩ | h1
  · rw [hw.2] at h2
    omega
  · exact hE.1 _ h1 hw.1
theorem ks_wide {E : ks_E} {mo : Nat} {far : Bool} {v : Nat → Nat} {H : Heap} (hO : ks_O E mo far) (hW : ks_W E v H) : H[mo + 21]? = some (kq_I (ks_c E) 16 (v (mo + 21))) ∧ v (mo + 21) < kw_M 16 := by
  have hwd := hO.2.2.2.1
  have q := hW.2.1 (mo + 21) hwd.1
  have q2 := hW.2.2.2.1 (mo + 21) hwd.1
  rw [hwd.2] at q q2
  exact ⟨q, q2⟩
theorem d_Mo_minus_0 : decode b_Mo_minus 0 = .ok (.aload_n 0, 1) := by decide +kernel
theorem d_Mo_minus_1 : decode b_Mo_minus 1 = .ok (.aload_n 1, 1) := by decide +kernel
theorem d_Mo_minus_2 : decode b_Mo_minus 2 = .ok (.aload_n 2, 1) := by decide +kernel
theorem d_Mo_minus_3 : decode b_Mo_minus 3 = .ok (.invokestatic 97, 3) := by decide +kernel
theorem d_Mo_minus_6 : decode b_Mo_minus 6 = .ok (.ifCond .eq 12, 3) := by decide +kernel
theorem d_Mo_minus_9 : decode b_Mo_minus 9 = .ok (.aload_n 0, 1) := by decide +kernel
theorem d_Mo_minus_10 : decode b_Mo_minus 10 = .ok (.aload_n 0, 1) := by decide +kernel
theorem d_Mo_minus_11 : decode b_Mo_minus 11 = .ok (.getstatic 90, 3) := by decide +kernel
theorem d_Mo_minus_14 : decode b_Mo_minus 14 = .ok (.invokestatic 101, 3) := by decide +kernel
theorem d_Mo_minus_17 : decode b_Mo_minus 17 = .ok (.pop, 1) := by decide +kernel
theorem d_Mo_minus_18 : decode b_Mo_minus 18 = .ok (.return_, 1) := by decide +kernel
set_option maxHeartbeats 4000000 in
set_option maxRecDepth 100000 in
theorem c_Mo_minus (l : Launch) (E : ks_E) (A : Nat → Nat) (v : Nat → Nat) (H : Heap) (hE : ks_ok E) (hA : ks_A E A) (hW : ks_W E v H) (r a b : Nat) (hr : ks_out E r) (ha : ks_in E a) (hb0 : ks_in E b) (hla : v a < kP) (hlb : v b < kP) : Met l y_Mo_minus w_Mo_minus ({ frames := 1, cells := 0, slots := 0, locals := 25 }) (kq_P [.ref r, .ref a, .ref b] H (ks_C E A)) (kq_Q (fun o H1 => o = none ∧ ks_W E (va_up v r (kp_dif kP (v a) (v b))) H1)) 0 0 (fun q => q = r) := by
  refine Met.ofW (cc := b_Mo_minus) (maxL := 3) (ret := none) (by decide) rfl ?_
  intro p e s m args below meth c s₁ B0 hml hv
  obtain ⟨rfl, hH, hC⟩ := hv
  have hx := B0.exec
  have hb := B0.bytes
  have hret := B0.returns
  have hts := atoms_spec (ws := w_Mo_minus) B0.pre
  have hown : s.vm.findClass R_Mo = some m.cls := findClass_of_methodNamed B0.named
  have hlocks := B0.notSynchronized
  rw [hH]
  have hl := lv_entry ([.ref r, .ref a, .ref b]) (n := 3) (Nat.le_of_ble_eq_true rfl)
  rw [lg_entry_eq]
  generalize (lg_sl ([.ref r, .ref a, .ref b]) ++ List.replicate (3 - (lg_sl ([.ref r, .ref a, .ref b])).length) Slot.unset).toArray = ls at hl ⊢
  have hl : lv_has ls 3 [(0, .ref r), (1, .ref a), (2, .ref b)] := hl
  have hB := hC.1
  have hT := ks_T hE hB
  have hsa := ks_src hE hW hB ha
  have hsb := ks_src hE hW hB hb0
  have hA8 := ks_lt hE hW ha
  have hB8 := ks_lt hE hW hb0
  have hlr := ks_lt hE hW (Or.inl hr)
  have hrr := ks_row hW hr
  have key := kx_minus hla hlb
  refine lv_aload_n hx hb d_Mo_minus_0 rfl (lv_at hl 0 rfl) ?_
  refine lv_aload_n hx hb d_Mo_minus_1 rfl (lv_at hl 1 rfl) ?_
  refine lv_aload_n hx hb d_Mo_minus_2 rfl (lv_at hl 2 rfl) ?_
  refine kq_call (va_runS (As := [.ref r, .ref a, .ref b]) (rest := []) ⟨hx, hb, hml, hown, hts⟩ (c_Mo_sub l H (ks_c E) r a b (v r) (v a) (v b) hlr hA8 hB8 hrr) (va_cwS 3 hts (kt_inS kt_w475 kt_w473 kt_w474 kt_w5) rfl rfl rfl (by decide +kernel) ⟨Nat.le_of_ble_eq_true rfl, Nat.le_of_ble_eq_true rfl⟩) (kq_preS (kq_st_A.both (kq_st_r.both kq_st_r)) (⟨hT, hsa, hsb⟩)) rfl rfl hl.1 rfl (lv_room (Nat.le_of_ble_eq_true rfl)) d_Mo_minus_3 ⟨Nat.zero_le _, Nat.zero_le _⟩) (fun v9 H9 L1 hq9 hL1 => ?_)
  obtain ⟨rfl, rfl⟩ := hq9
  refine W.eq (g2 := F0 m 6 ls [.int (nI (18446744073709551616 - (if v a < v b then 1 else 0)))]) rfl ?_
  have hW1 := ks_put hE hW hr (kw_sub_lt (v a) (v b))
  refine lv_if_eq hx hb d_Mo_minus_6 rfl (fun hc => ?_) (fun hc => ?_)
  · have hn : ¬ v a < v b := fun q => by
      rw [if_pos q] at hc
      exact absurd hc (by decide +kernel)
    rw [if_neg hn] at key
    refine W.vret hx hb hret (fun t ht _ => ⟨_, rfl, rfl, ?_⟩) (t_lL (free := fun q => q = r) (fun q h => by cases h) hL1) d_Mo_minus_18
    rw [ht, ← key]
    exact hW1
  · have hn : v a < v b := Classical.byContradiction fun q => by
      rw [if_neg q] at hc
      exact hc (by decide +kernel)
    rw [if_pos hn] at key
    have hsr1 := ks_src hE hW1 hB (Or.inl hr)
    have hrr1 := ks_row hW1 hr
    have hsp1 := ks_src hE hW1 hB (Or.inr hA.1.1)
    have hlp1 := ks_lt hE hW1 (Or.inr hA.1.1)
    rw [ks_cst hW1 hA.1] at hsp1 hlp1
    rw [kq_up_at] at hsr1 hrr1
    refine lv_aload_n hx hb d_Mo_minus_9 rfl (lv_at hl 0 rfl) ?_
    refine lv_aload_n hx hb d_Mo_minus_10 rfl (lv_at hl 0 rfl) ?_
    refine kq_gets hx hb hts (ks_zat hW1 hC.2.1) hown kt_w453 d_Mo_minus_11 ?_
    refine kq_call (va_runS (As := [.ref r, .ref r, .ref (A 0)]) (rest := []) ⟨hx, hb, hml, hown, hts⟩ (c_Mo_add_1 l _ (ks_c E) r r (A 0) (kw_sub (v a) (v b)) (kw_sub (v a) (v b)) kP (kw_sub_lt _ _) (kw_sub_lt _ _) hlp1 hrr1) (va_cwS 3 hts (kt_inS kt_w479 kt_w477 kt_w478 kt_w5) rfl rfl rfl (by decide +kernel) ⟨Nat.le_of_ble_eq_true rfl, Nat.le_of_ble_eq_true rfl⟩) (kq_preS (kq_st_A.both (kq_st_r.both kq_st_r)) (⟨hT, hsr1, hsp1⟩)) rfl rfl hl.1 rfl (lv_room (Nat.le_of_ble_eq_true rfl)) d_Mo_minus_14 ⟨Nat.zero_le _, Nat.zero_le _⟩) (fun v9 H9 L2 hq9 hL2 => ?_)
    obtain ⟨rfl, rfl⟩ := hq9
    refine W.eq (g2 := F0 m 17 ls [.int (nI ((kw_sub (v a) (v b) + kP) / kw_M 8))]) rfl ?_
    refine kq_rH (kq_set_set _ _ _ _) ?_
    refine lv_pop hx hb d_Mo_minus_17 rfl ?_
    refine W.vret hx hb hret (fun t ht _ => ⟨_, rfl, rfl, ?_⟩) (t_lL (free := fun q => q = r) (t_lL (free := fun q => q = r) (fun q h => by cases h) hL1) hL2) d_Mo_minus_18
    rw [ht, ← key]
    exact ks_put hE hW hr (Nat.mod_lt _ (kw_M_pos 8))
theorem d_Mo_plus_1_0 : decode b_Mo_plus_1 0 = .ok (.aload_n 0, 1) := by decide +kernel
theorem d_Mo_plus_1_1 : decode b_Mo_plus_1 1 = .ok (.aload_n 1, 1) := by decide +kernel
theorem d_Mo_plus_1_2 : decode b_Mo_plus_1 2 = .ok (.aload_n 2, 1) := by decide +kernel
theorem d_Mo_plus_1_3 : decode b_Mo_plus_1 3 = .ok (.invokestatic 101, 3) := by decide +kernel
theorem d_Mo_plus_1_6 : decode b_Mo_plus_1 6 = .ok (.iconst 1, 1) := by decide +kernel
theorem d_Mo_plus_1_7 : decode b_Mo_plus_1 7 = .ok (.if_icmp .eq 13, 3) := by decide +kernel
theorem d_Mo_plus_1_10 : decode b_Mo_plus_1 10 = .ok (.aload_n 0, 1) := by decide +kernel
theorem d_Mo_plus_1_11 : decode b_Mo_plus_1 11 = .ok (.getstatic 90, 3) := by decide +kernel
theorem d_Mo_plus_1_14 : decode b_Mo_plus_1 14 = .ok (.invokestatic 93, 3) := by decide +kernel
theorem d_Mo_plus_1_17 : decode b_Mo_plus_1 17 = .ok (.ifCond .lt 12, 3) := by decide +kernel
theorem d_Mo_plus_1_20 : decode b_Mo_plus_1 20 = .ok (.aload_n 0, 1) := by decide +kernel
theorem d_Mo_plus_1_21 : decode b_Mo_plus_1 21 = .ok (.aload_n 0, 1) := by decide +kernel
theorem d_Mo_plus_1_22 : decode b_Mo_plus_1 22 = .ok (.getstatic 90, 3) := by decide +kernel
theorem d_Mo_plus_1_25 : decode b_Mo_plus_1 25 = .ok (.invokestatic 97, 3) := by decide +kernel
theorem d_Mo_plus_1_28 : decode b_Mo_plus_1 28 = .ok (.pop, 1) := by decide +kernel
theorem d_Mo_plus_1_29 : decode b_Mo_plus_1 29 = .ok (.return_, 1) := by decide +kernel
set_option maxHeartbeats 4000000 in
set_option maxRecDepth 100000 in
theorem c_Mo_plus_1 (l : Launch) (E : ks_E) (A : Nat → Nat) (v : Nat → Nat) (H : Heap) (hE : ks_ok E) (hA : ks_A E A) (hW : ks_W E v H) (r a b : Nat) (hr : ks_out E r) (ha : ks_in E a) (hb0 : ks_in E b) (hla : v a < kP) (hlb : v b < kP) : Met l y_Mo_plus_1 w_Mo_plus_1 ({ frames := 3, cells := 0, slots := 0, locals := 64 }) (kq_P [.ref r, .ref a, .ref b] H (ks_C E A)) (kq_Q (fun o H1 => o = none ∧ ks_W E (va_up v r ((v a + v b) % kP)) H1)) 0 0 (fun q => q = r) := by
  refine Met.ofW (cc := b_Mo_plus_1) (maxL := 3) (ret := none) (by decide) rfl ?_
  intro p e s m args below meth c s₁ B0 hml hv
  obtain ⟨rfl, hH, hC⟩ := hv
  have hx := B0.exec
  have hb := B0.bytes
  have hret := B0.returns
  have hts := atoms_spec (ws := w_Mo_plus_1) B0.pre
  have hown : s.vm.findClass R_Mo = some m.cls := findClass_of_methodNamed B0.named
  have hlocks := B0.notSynchronized
  rw [hH]
  have hl := lv_entry ([.ref r, .ref a, .ref b]) (n := 3) (Nat.le_of_ble_eq_true rfl)
  rw [lg_entry_eq]
  generalize (lg_sl ([.ref r, .ref a, .ref b]) ++ List.replicate (3 - (lg_sl ([.ref r, .ref a, .ref b])).length) Slot.unset).toArray = ls at hl ⊢
  have hl : lv_has ls 3 [(0, .ref r), (1, .ref a), (2, .ref b)] := hl
  have hB := hC.1
  have hT := ks_T hE hB
  have hsa := ks_src hE hW hB ha
  have hsb := ks_src hE hW hB hb0
  have hA8 := ks_lt hE hW ha
  have hB8 := ks_lt hE hW hb0
  have hlr := ks_lt hE hW (Or.inl hr)
  have hrr := ks_row hW hr
  have key := kx_plus hla hlb
  have hX8 : (v a + v b) % kw_M 8 < kw_M 8 := Nat.mod_lt _ (kw_M_pos 8)
  have hc2 : (v a + v b) / kw_M 8 < 2 := Nat.div_lt_of_lt_mul (by omega)
  refine lv_aload_n hx hb d_Mo_plus_1_0 rfl (lv_at hl 0 rfl) ?_
  refine lv_aload_n hx hb d_Mo_plus_1_1 rfl (lv_at hl 1 rfl) ?_
  refine lv_aload_n hx hb d_Mo_plus_1_2 rfl (lv_at hl 2 rfl) ?_
  refine kq_call (va_runS (As := [.ref r, .ref a, .ref b]) (rest := []) ⟨hx, hb, hml, hown, hts⟩ (c_Mo_add_1 l H (ks_c E) r a b (v r) (v a) (v b) hlr hA8 hB8 hrr) (va_cwS 3 hts (kt_inS kt_w479 kt_w477 kt_w478 kt_w5) rfl rfl rfl (by decide +kernel) ⟨Nat.le_of_ble_eq_true rfl, Nat.le_of_ble_eq_true rfl⟩) (kq_preS (kq_st_A.both (kq_st_r.both kq_st_r)) (⟨hT, hsa, hsb⟩)) rfl rfl hl.1 rfl (lv_room (Nat.le_of_ble_eq_true rfl)) d_Mo_plus_1_3 ⟨Nat.zero_le _, Nat.zero_le _⟩) (fun v9 H9 L1 hq9 hL1 => ?_)
  obtain ⟨rfl, rfl⟩ := hq9
  refine W.eq (g2 := F0 m 6 ls [.int (nI ((v a + v b) / kw_M 8))]) rfl ?_
  have hW1 := ks_put hE hW hr hX8
  have hsr1 := ks_src hE hW1 hB (Or.inl hr)
  have hrr1 := ks_row hW1 hr
  have hsp1 := ks_src hE hW1 hB (Or.inr hA.1.1)
  have hlp1 := ks_lt hE hW1 (Or.inr hA.1.1)
  rw [ks_cst hW1 hA.1] at hsp1 hlp1
  rw [kq_up_at] at hsr1 hrr1
  have hlc1 : ∀ q ∈ ([] : List Loc) ++ L1, q.base = r := t_lL (free := fun q => q = r) (fun q h => by cases h) hL1
  refine lv_iconst (v := nI 1) hx hb d_Mo_plus_1_6 (by decide) ?_
  refine lv_icmp_eq hx hb d_Mo_plus_1_7 rfl (fun hc => ?_) (fun hc => ?_)
  · have h1 : (v a + v b) / kw_M 8 = 1 := (kx_n1 (by omega)).mp hc
    rw [if_pos (Or.inl h1)] at key
    refine lv_aload_n hx hb d_Mo_plus_1_20 rfl (lv_at hl 0 rfl) ?_
    refine lv_aload_n hx hb d_Mo_plus_1_21 rfl (lv_at hl 0 rfl) ?_
    refine kq_gets hx hb hts (ks_zat hW1 hC.2.1) hown kt_w453 d_Mo_plus_1_22 ?_
    refine kq_call (va_runS (As := [.ref r, .ref r, .ref (A 0)]) (rest := []) ⟨hx, hb, hml, hown, hts⟩ (c_Mo_sub l _ (ks_c E) r r (A 0) ((v a + v b) % kw_M 8) ((v a + v b) % kw_M 8) kP hX8 hX8 hlp1 hrr1) (va_cwS 3 hts (kt_inS kt_w475 kt_w473 kt_w474 kt_w5) rfl rfl rfl (by decide +kernel) ⟨Nat.le_of_ble_eq_true rfl, Nat.le_of_ble_eq_true rfl⟩) (kq_preS (kq_st_A.both (kq_st_r.both kq_st_r)) (⟨hT, hsr1, hsp1⟩)) rfl rfl hl.1 rfl (lv_room (Nat.le_of_ble_eq_true rfl)) d_Mo_plus_1_25 ⟨Nat.zero_le _, Nat.zero_le _⟩) (fun v9 H9 L3 hq9 hL3 => ?_)
    obtain ⟨rfl, rfl⟩ := hq9
    refine W.eq (g2 := F0 m 28 ls [.int (nI (18446744073709551616 - (if (v a + v b) % kw_M 8 < kP then 1 else 0)))]) rfl ?_
    refine kq_rH (kq_set_set _ _ _ _) ?_
    refine lv_pop hx hb d_Mo_plus_1_28 rfl ?_
    refine W.vret hx hb hret (fun t ht _ => ⟨_, rfl, rfl, ?_⟩) (t_lL (free := fun q => q = r) hlc1 hL3) d_Mo_plus_1_29
    rw [ht, ← key]
    exact ks_put hE hW hr (kw_sub_lt _ _)
  · have h1 : ¬ (v a + v b) / kw_M 8 = 1 := fun q => hc ((kx_n1 (by omega)).mpr q)
    refine lv_aload_n hx hb d_Mo_plus_1_10 rfl (lv_at hl 0 rfl) ?_
    refine kq_gets hx hb hts (ks_zat hW1 hC.2.1) hown kt_w453 d_Mo_plus_1_11 ?_
    refine kq_call (va_runS (As := [.ref r, .ref (A 0)]) (rest := []) ⟨hx, hb, hml, hown, hts⟩ (c_Mo_compare l _ r (A 0) ((v a + v b) % kw_M 8) kP hX8 hlp1) (va_cwS 2 hts (kt_inS kt_w465 kt_w463 kt_w464 kt_w5) rfl rfl rfl (by decide +kernel) ⟨Nat.le_of_ble_eq_true rfl, Nat.le_of_ble_eq_true rfl⟩) (kq_preS (kq_st_r.both kq_st_r) (⟨hsr1, hsp1⟩)) rfl rfl hl.1 rfl (lv_room (Nat.le_of_ble_eq_true rfl)) d_Mo_plus_1_14 ⟨Nat.zero_le _, Nat.zero_le _⟩) (fun v9 H9 L2 hq9 hL2 => ?_)
    obtain ⟨rfl, e9⟩ := hq9
    rw [e9]
    clear e9
    refine W.eq (g2 := F0 m 17 ls [.int (kx_cmp ((v a + v b) % kw_M 8) kP)]) rfl ?_
    have hlc2 := t_lL (free := fun q => q = r) hlc1 (fun q z => (hL2 q z).elim)
    refine lv_if_lt hx hb d_Mo_plus_1_17 rfl (fun hc3 => ?_) (fun hc3 => ?_)
    · have h2 := kx_cmp_lt.mp hc3
      rw [if_neg (fun q => q.elim h1 (fun z => by omega))] at key
      refine W.vret hx hb hret (fun t ht _ => ⟨_, rfl, rfl, ?_⟩) hlc2 d_Mo_plus_1_29
      rw [ht, ← key]
      exact hW1
    · have h2 : kP ≤ (v a + v b) % kw_M 8 := Nat.not_lt.mp (fun q => hc3 (kx_cmp_lt.mpr q))
      rw [if_pos (Or.inr h2)] at key
      refine lv_aload_n hx hb d_Mo_plus_1_20 rfl (lv_at hl 0 rfl) ?_
      refine lv_aload_n hx hb d_Mo_plus_1_21 rfl (lv_at hl 0 rfl) ?_
      refine kq_gets hx hb hts (ks_zat hW1 hC.2.1) hown kt_w453 d_Mo_plus_1_22 ?_
      refine kq_call (va_runS (As := [.ref r, .ref r, .ref (A 0)]) (rest := []) ⟨hx, hb, hml, hown, hts⟩ (c_Mo_sub l _ (ks_c E) r r (A 0) ((v a + v b) % kw_M 8) ((v a + v b) % kw_M 8) kP hX8 hX8 hlp1 hrr1) (va_cwS 3 hts (kt_inS kt_w475 kt_w473 kt_w474 kt_w5) rfl rfl rfl (by decide +kernel) ⟨Nat.le_of_ble_eq_true rfl, Nat.le_of_ble_eq_true rfl⟩) (kq_preS (kq_st_A.both (kq_st_r.both kq_st_r)) (⟨hT, hsr1, hsp1⟩)) rfl rfl hl.1 rfl (lv_room (Nat.le_of_ble_eq_true rfl)) d_Mo_plus_1_25 ⟨Nat.zero_le _, Nat.zero_le _⟩) (fun v9 H9 L3 hq9 hL3 => ?_)
      obtain ⟨rfl, rfl⟩ := hq9
      refine W.eq (g2 := F0 m 28 ls [.int (nI (18446744073709551616 - (if (v a + v b) % kw_M 8 < kP then 1 else 0)))]) rfl ?_
      refine kq_rH (kq_set_set _ _ _ _) ?_
      refine lv_pop hx hb d_Mo_plus_1_28 rfl ?_
      refine W.vret hx hb hret (fun t ht _ => ⟨_, rfl, rfl, ?_⟩) (t_lL (free := fun q => q = r) hlc2 hL3) d_Mo_plus_1_29
      rw [ht, ← key]
      exact ks_put hE hW hr (kw_sub_lt _ _)
end
section
/-! KeyCurveModel: multiply of rows (own rows). -/
theorem d_Mo_multiply_1_0 : decode b_Mo_multiply_1 0 = .ok (.iconst 0, 1) := by decide +kernel
theorem d_Mo_multiply_1_1 : decode b_Mo_multiply_1 1 = .ok (.istore_n 3, 1) := by decide +kernel
theorem d_Mo_multiply_1_2 : decode b_Mo_multiply_1 2 = .ok (.iload_n 3, 1) := by decide +kernel
theorem d_Mo_multiply_1_3 : decode b_Mo_multiply_1 3 = .ok (.bipush 16, 2) := by decide +kernel
theorem d_Mo_multiply_1_5 : decode b_Mo_multiply_1 5 = .ok (.if_icmp .ge 16, 3) := by decide +kernel
theorem d_Mo_multiply_1_8 : decode b_Mo_multiply_1 8 = .ok (.aload_n 0, 1) := by decide +kernel
theorem d_Mo_multiply_1_9 : decode b_Mo_multiply_1 9 = .ok (.getfield 37, 3) := by decide +kernel
theorem d_Mo_multiply_1_12 : decode b_Mo_multiply_1 12 = .ok (.iload_n 3, 1) := by decide +kernel
theorem d_Mo_multiply_1_13 : decode b_Mo_multiply_1 13 = .ok (.iconst 0, 1) := by decide +kernel
theorem d_Mo_multiply_1_14 : decode b_Mo_multiply_1 14 = .ok (.iastore, 1) := by decide +kernel
theorem d_Mo_multiply_1_15 : decode b_Mo_multiply_1 15 = .ok (.iinc 3 1, 3) := by decide +kernel
theorem d_Mo_multiply_1_18 : decode b_Mo_multiply_1 18 = .ok (.goto (-16), 3) := by decide +kernel
theorem d_Mo_multiply_1_21 : decode b_Mo_multiply_1 21 = .ok (.iconst 0, 1) := by decide +kernel
theorem d_Mo_multiply_1_22 : decode b_Mo_multiply_1 22 = .ok (.istore_n 3, 1) := by decide +kernel
theorem d_Mo_multiply_1_23 : decode b_Mo_multiply_1 23 = .ok (.iload_n 3, 1) := by decide +kernel
theorem d_Mo_multiply_1_24 : decode b_Mo_multiply_1 24 = .ok (.bipush 8, 2) := by decide +kernel
theorem d_Mo_multiply_1_26 : decode b_Mo_multiply_1 26 = .ok (.if_icmp .ge 97, 3) := by decide +kernel
theorem d_Mo_multiply_1_29 : decode b_Mo_multiply_1 29 = .ok (.lconst 0, 1) := by decide +kernel
theorem d_Mo_multiply_1_30 : decode b_Mo_multiply_1 30 = .ok (.lstore 4, 2) := by decide +kernel
theorem d_Mo_multiply_1_32 : decode b_Mo_multiply_1 32 = .ok (.iconst 0, 1) := by decide +kernel
theorem d_Mo_multiply_1_33 : decode b_Mo_multiply_1 33 = .ok (.istore 6, 2) := by decide +kernel
theorem d_Mo_multiply_1_35 : decode b_Mo_multiply_1 35 = .ok (.iload 6, 2) := by decide +kernel
theorem d_Mo_multiply_1_37 : decode b_Mo_multiply_1 37 = .ok (.bipush 8, 2) := by decide +kernel
theorem d_Mo_multiply_1_39 : decode b_Mo_multiply_1 39 = .ok (.if_icmp .ge 66, 3) := by decide +kernel
theorem d_Mo_multiply_1_42 : decode b_Mo_multiply_1 42 = .ok (.lload 4, 2) := by decide +kernel
theorem d_Mo_multiply_1_44 : decode b_Mo_multiply_1 44 = .ok (.aload_n 1, 1) := by decide +kernel
theorem d_Mo_multiply_1_45 : decode b_Mo_multiply_1 45 = .ok (.iload_n 3, 1) := by decide +kernel
theorem d_Mo_multiply_1_46 : decode b_Mo_multiply_1 46 = .ok (.iaload, 1) := by decide +kernel
theorem d_Mo_multiply_1_47 : decode b_Mo_multiply_1 47 = .ok (.i2l, 1) := by decide +kernel
theorem d_Mo_multiply_1_48 : decode b_Mo_multiply_1 48 = .ok (.ldc2_w 76, 3) := by decide +kernel
theorem d_Mo_multiply_1_51 : decode b_Mo_multiply_1 51 = .ok (.land, 1) := by decide +kernel
theorem d_Mo_multiply_1_52 : decode b_Mo_multiply_1 52 = .ok (.aload_n 2, 1) := by decide +kernel
theorem d_Mo_multiply_1_53 : decode b_Mo_multiply_1 53 = .ok (.iload 6, 2) := by decide +kernel
theorem d_Mo_multiply_1_55 : decode b_Mo_multiply_1 55 = .ok (.iaload, 1) := by decide +kernel
theorem d_Mo_multiply_1_56 : decode b_Mo_multiply_1 56 = .ok (.i2l, 1) := by decide +kernel
theorem d_Mo_multiply_1_57 : decode b_Mo_multiply_1 57 = .ok (.ldc2_w 76, 3) := by decide +kernel
theorem d_Mo_multiply_1_60 : decode b_Mo_multiply_1 60 = .ok (.land, 1) := by decide +kernel
theorem d_Mo_multiply_1_61 : decode b_Mo_multiply_1 61 = .ok (.lmul, 1) := by decide +kernel
theorem d_Mo_multiply_1_62 : decode b_Mo_multiply_1 62 = .ok (.aload_n 0, 1) := by decide +kernel
theorem d_Mo_multiply_1_63 : decode b_Mo_multiply_1 63 = .ok (.getfield 37, 3) := by decide +kernel
theorem d_Mo_multiply_1_66 : decode b_Mo_multiply_1 66 = .ok (.iload_n 3, 1) := by decide +kernel
theorem d_Mo_multiply_1_67 : decode b_Mo_multiply_1 67 = .ok (.iload 6, 2) := by decide +kernel
theorem d_Mo_multiply_1_69 : decode b_Mo_multiply_1 69 = .ok (.iadd, 1) := by decide +kernel
theorem d_Mo_multiply_1_70 : decode b_Mo_multiply_1 70 = .ok (.iaload, 1) := by decide +kernel
theorem d_Mo_multiply_1_71 : decode b_Mo_multiply_1 71 = .ok (.i2l, 1) := by decide +kernel
theorem d_Mo_multiply_1_72 : decode b_Mo_multiply_1 72 = .ok (.ldc2_w 76, 3) := by decide +kernel
theorem d_Mo_multiply_1_75 : decode b_Mo_multiply_1 75 = .ok (.land, 1) := by decide +kernel
theorem d_Mo_multiply_1_76 : decode b_Mo_multiply_1 76 = .ok (.ladd, 1) := by decide +kernel
theorem d_Mo_multiply_1_77 : decode b_Mo_multiply_1 77 = .ok (.ladd, 1) := by decide +kernel
theorem d_Mo_multiply_1_78 : decode b_Mo_multiply_1 78 = .ok (.lstore 4, 2) := by decide +kernel
theorem d_Mo_multiply_1_80 : decode b_Mo_multiply_1 80 = .ok (.aload_n 0, 1) := by decide +kernel
theorem d_Mo_multiply_1_81 : decode b_Mo_multiply_1 81 = .ok (.getfield 37, 3) := by decide +kernel
theorem d_Mo_multiply_1_84 : decode b_Mo_multiply_1 84 = .ok (.iload_n 3, 1) := by decide +kernel
theorem d_Mo_multiply_1_85 : decode b_Mo_multiply_1 85 = .ok (.iload 6, 2) := by decide +kernel
theorem d_Mo_multiply_1_87 : decode b_Mo_multiply_1 87 = .ok (.iadd, 1) := by decide +kernel
theorem d_Mo_multiply_1_88 : decode b_Mo_multiply_1 88 = .ok (.lload 4, 2) := by decide +kernel
theorem d_Mo_multiply_1_90 : decode b_Mo_multiply_1 90 = .ok (.l2i, 1) := by decide +kernel
theorem d_Mo_multiply_1_91 : decode b_Mo_multiply_1 91 = .ok (.iastore, 1) := by decide +kernel
theorem d_Mo_multiply_1_92 : decode b_Mo_multiply_1 92 = .ok (.lload 4, 2) := by decide +kernel
theorem d_Mo_multiply_1_94 : decode b_Mo_multiply_1 94 = .ok (.bipush 32, 2) := by decide +kernel
theorem d_Mo_multiply_1_96 : decode b_Mo_multiply_1 96 = .ok (.lushr, 1) := by decide +kernel
theorem d_Mo_multiply_1_97 : decode b_Mo_multiply_1 97 = .ok (.lstore 4, 2) := by decide +kernel
theorem d_Mo_multiply_1_99 : decode b_Mo_multiply_1 99 = .ok (.iinc 6 1, 3) := by decide +kernel
theorem d_Mo_multiply_1_102 : decode b_Mo_multiply_1 102 = .ok (.goto (-67), 3) := by decide +kernel
theorem d_Mo_multiply_1_105 : decode b_Mo_multiply_1 105 = .ok (.aload_n 0, 1) := by decide +kernel
theorem d_Mo_multiply_1_106 : decode b_Mo_multiply_1 106 = .ok (.getfield 37, 3) := by decide +kernel
theorem d_Mo_multiply_1_109 : decode b_Mo_multiply_1 109 = .ok (.iload_n 3, 1) := by decide +kernel
theorem d_Mo_multiply_1_110 : decode b_Mo_multiply_1 110 = .ok (.bipush 8, 2) := by decide +kernel
theorem d_Mo_multiply_1_112 : decode b_Mo_multiply_1 112 = .ok (.iadd, 1) := by decide +kernel
theorem d_Mo_multiply_1_113 : decode b_Mo_multiply_1 113 = .ok (.lload 4, 2) := by decide +kernel
theorem d_Mo_multiply_1_115 : decode b_Mo_multiply_1 115 = .ok (.l2i, 1) := by decide +kernel
theorem d_Mo_multiply_1_116 : decode b_Mo_multiply_1 116 = .ok (.iastore, 1) := by decide +kernel
theorem d_Mo_multiply_1_117 : decode b_Mo_multiply_1 117 = .ok (.iinc 3 1, 3) := by decide +kernel
theorem d_Mo_multiply_1_120 : decode b_Mo_multiply_1 120 = .ok (.goto (-97), 3) := by decide +kernel
theorem d_Mo_multiply_1_123 : decode b_Mo_multiply_1 123 = .ok (.return_, 1) := by decide +kernel
section
variable {p : Program} {l : Launch} {e : Env} {R : Room} {s : State} {m : MethodId} {args : Array Value} {below : List Frame} {meth : Method} {c : Code} {cells slots : Nat} {Q : State → Prop}
set_option maxHeartbeats 4000000 in
set_option maxRecDepth 100000 in
theorem la_Mo_multiply_1 (hx : p.tables.exec = Jvm.exec) (hb : c.code = b_Mo_multiply_1) (hts : ∀ w ∈ w_Mo_multiply_1, w.before args s = true) (hown : s.vm.findClass R_Mo = some m.cls) {E : ks_E} {mo : Nat} {far : Bool} (hE : ks_ok E) (hO : ks_O E mo far) (hB : ks_B E s) {a b : Nat} {v : Nat → Nat}
    (kk : ∀ (w : Nat → Nat) (H : Heap) (ls : Array Slot) (locs : List Loc), ks_W E w H → w (mo + 21) = 0 → (∀ q, q ≠ mo + 21 → w q = v q) → (∀ q ∈ locs, q.base = mo + 21) → lv_has ls 7 [(0, .ref mo), (1, .ref a), (2, .ref b)] → W p l e R s m args below meth c H locs 0 0 Q (F0 m 21 ls [])) :
    ∀ (n i : Nat) (w : Nat → Nat) (H : Heap) (ls : Array Slot) (locs : List Loc), i + n = 16 → ks_W E w H → w (mo + 21) % kw_M i = 0 → (∀ q, q ≠ mo + 21 → w q = v q) → (∀ q ∈ locs, q.base = mo + 21) → lv_has ls 7 [(3, .int (nI i)), (0, .ref mo), (1, .ref a), (2, .ref b)] → W p l e R s m args below meth c H locs 0 0 Q (F0 m 2 ls []) := by
  intro n
  induction n with
  | zero =>
    intro i w H ls locs hn hW h1 ho hlc hl
    obtain rfl : i = 16 := by omega
    refine lv_iload_n hx hb d_Mo_multiply_1_2 rfl (lv_at hl 0 rfl) ?_
    refine lv_bipush (v := nI 16) hx hb d_Mo_multiply_1_3 (by decide) ?_
    refine lv_icmp_ge hx hb d_Mo_multiply_1_5 rfl (fun hc => ?_) (fun hc => ?_)
    · rw [Nat.mod_eq_of_lt (ks_wide hO hW).2] at h1
      exact kk w H ls locs hW h1 ho hlc (lv_sub hl [1, 2, 3] rfl)
    · exact absurd (nI_le (Nat.le_refl 16) (by decide)) hc
  | succ n ih =>
    intro i w H ls locs hn hW h1 ho hlc hl
    have hi : i < 16 := by omega
    have hK := hB.1
    have hT := ks_T hE hB
    have hwd := hO.2.2.2.1
    have hOo := ks_obj hW hO.1 hO.2.1
    obtain ⟨hw1, hw2⟩ := ks_wide hO hW
    have hW1 := ks_putn hE hW hwd.1 hwd.2 (kw_s_lt hw2 hi (show 0 < 4294967296 by decide))
    refine lv_iload_n hx hb d_Mo_multiply_1_2 rfl (lv_at hl 0 rfl) ?_
    refine lv_bipush (v := nI 16) hx hb d_Mo_multiply_1_3 (by decide) ?_
    refine lv_icmp_ge hx hb d_Mo_multiply_1_5 rfl (fun hc => ?_) (fun hc => ?_)
    · exact absurd hc (nI_ge hi (by decide))
    · refine lv_aload_n hx hb d_Mo_multiply_1_8 rfl (lv_at hl 1 rfl) ?_
      refine kq_get hx hb hts kt_F_Mo hown hK hOo rfl 8 (by decide) kt_w384 rfl d_Mo_multiply_1_9 ?_
      refine lv_iload_n hx hb d_Mo_multiply_1_12 rfl (lv_at hl 0 rfl) ?_
      refine lv_iconst (v := nI 0) hx hb d_Mo_multiply_1_13 (by decide) ?_
      refine kq_iast hx hb (hT) (hw1) (hi) (by decide) ((by decide)) d_Mo_multiply_1_14 ?_
      refine lv_iinc (k := 0) (v := nI (i + 1)) hx hb d_Mo_multiply_1_15 hl rfl (kq_inc i) (by decide) rfl (fun ls hl => ?_)
      have hl : lv_has ls 7 [(3, .int (nI (i + 1))), (0, .ref mo), (1, .ref a), (2, .ref b)] := hl
      refine lv_goto hx hb d_Mo_multiply_1_18 rfl ?_
      refine ih (i + 1) _ _ ls _ (by omega) hW1 ?_ (fun q hq => by rw [kq_up_ne hq]; exact ho q hq) (t_lc (free := fun q => q = mo + 21) hlc rfl) (lv_sub hl [0, 1, 2, 3] rfl)
      rw [kq_up_at, kw_s_lo _ _ _ (by decide), h1]
      rfl
set_option maxHeartbeats 4000000 in
set_option maxRecDepth 100000 in
theorem li_Mo_multiply_1 (hx : p.tables.exec = Jvm.exec) (hb : c.code = b_Mo_multiply_1) (hts : ∀ w ∈ w_Mo_multiply_1, w.before args s = true) (hown : s.vm.findClass R_Mo = some m.cls) {E : ks_E} {mo : Nat} {far : Bool} (hE : ks_ok E) (hO : ks_O E mo far) (hB : ks_B E s) {a b i V0 : Nat} {v : Nat → Nat} (ha : ks_in E a) (hb0 : ks_in E b) (hi : i < 8)
    (kk : ∀ (w : Nat → Nat) (H : Heap) (cy : Nat) (ls : Array Slot) (locs : List Loc), ks_W E w H → w (mo + 21) < kw_M (i + 8) → cy < 4294967296 → w (mo + 21) + cy * kw_M (i + 8) = V0 + kw_d (v a) i * (v b % kw_M 8) * kw_M i → (∀ q, q ≠ mo + 21 → w q = v q) → (∀ q ∈ locs, q.base = mo + 21) → lv_has ls 7 [(4, .long (lN cy)), (0, .ref mo), (1, .ref a), (2, .ref b), (3, .int (nI i))] → W p l e R s m args below meth c H locs 0 0 Q (F0 m 105 ls [])) :
    ∀ (n j : Nat) (w : Nat → Nat) (H : Heap) (cy : Nat) (ls : Array Slot) (locs : List Loc), j + n = 8 → ks_W E w H → w (mo + 21) < kw_M (i + 8) → cy < 4294967296 → w (mo + 21) + cy * kw_M (i + j) = V0 + kw_d (v a) i * (v b % kw_M j) * kw_M i → (∀ q, q ≠ mo + 21 → w q = v q) → (∀ q ∈ locs, q.base = mo + 21) → lv_has ls 7 [(6, .int (nI j)), (4, .long (lN cy)), (0, .ref mo), (1, .ref a), (2, .ref b), (3, .int (nI i))] → W p l e R s m args below meth c H locs 0 0 Q (F0 m 35 ls []) := by
  intro n
  induction n with
  | zero =>
    intro j w H cy ls locs hn hW hV hcy hI ho hlc hl
    obtain rfl : j = 8 := by omega
    refine lv_iload hx hb d_Mo_multiply_1_35 (lv_at hl 0 rfl) ?_
    refine lv_bipush (v := nI 8) hx hb d_Mo_multiply_1_37 (by decide) ?_
    refine lv_icmp_ge hx hb d_Mo_multiply_1_39 rfl (fun hc => ?_) (fun hc => ?_)
    · exact kk w H cy ls locs hW hV hcy hI ho hlc (lv_sub hl [1, 2, 3, 4, 5] rfl)
    · exact absurd (nI_le (Nat.le_refl 8) (by decide)) hc
  | succ n ih =>
    intro j w H cy ls locs hn hW hV hcy hI ho hlc hl
    have hj : j < 8 := by omega
    have hK := hB.1
    have hT := ks_T hE hB
    have hwd := hO.2.2.2.1
    have hOo := ks_obj hW hO.1 hO.2.1
    have hsa := ks_src hE hW hB ha
    have hsb := ks_src hE hW hB hb0
    rw [ho a (ks_in_ne hE hO ha)] at hsa
    rw [ho b (ks_in_ne hE hO hb0)] at hsb
    obtain ⟨hw1, hw2⟩ := ks_wide hO hW
    have hsw : kq_r s .int H (mo + 21) 16 (fun k => .int (nI (kw_d (w (mo + 21)) k))) := kq_r.ofV hT hw1
    have lA := kw_d_lt (v a) i
    have lB := kw_d_lt (v b) j
    have lW := kw_d_lt (w (mo + 21)) (i + j)
    have hs64 : kw_d (v a) i * kw_d (v b) j + kw_d (w (mo + 21)) (i + j) + cy < 18446744073709551616 := kp_s64 lA lB lW hcy
    have lx : (cy + (kw_d (v a) i * kw_d (v b) j + kw_d (w (mo + 21)) (i + j))) % 4294967296 < 4294967296 := Nat.mod_lt _ (by decide)
    have hW1 := ks_putn hE hW hwd.1 hwd.2 (kw_s_lt hw2 (show i + j < 16 by omega) lx)
    refine lv_iload hx hb d_Mo_multiply_1_35 (lv_at hl 0 rfl) ?_
    refine lv_bipush (v := nI 8) hx hb d_Mo_multiply_1_37 (by decide) ?_
    refine lv_icmp_ge hx hb d_Mo_multiply_1_39 rfl (fun hc => ?_) (fun hc => ?_)
    · exact absurd hc (nI_ge hj (by decide))
    · refine lv_lload hx hb d_Mo_multiply_1_42 (lv_at hl 1 rfl) ?_
      refine lv_aload_n hx hb d_Mo_multiply_1_44 rfl (lv_at hl 3 rfl) ?_
      refine lv_iload_n hx hb d_Mo_multiply_1_45 rfl (lv_at hl 5 rfl) ?_
      refine kq_iald hx hb (hsa) (hi) (by decide) (rfl) d_Mo_multiply_1_46 ?_
      refine lv_i2l (v := (nI (kw_d (v a) i)).toInt64) hx hb d_Mo_multiply_1_47 (rfl) ?_
      refine lv_ldc2 hx hb hown (v := lN 4294967295) (hts _ (List.mem_cons_of_mem _ kt_w476)) d_Mo_multiply_1_48 ?_
      refine lv_land hx hb d_Mo_multiply_1_51 ?_
      refine kq_rl (show ((nI (kw_d (v a) i)).toInt64) &&& (lN 4294967295) = lN (kw_d (v a) i) from kx_maskN lA) ?_
      refine lv_aload_n hx hb d_Mo_multiply_1_52 rfl (lv_at hl 4 rfl) ?_
      refine lv_iload hx hb d_Mo_multiply_1_53 (lv_at hl 0 rfl) ?_
      refine kq_iald hx hb (hsb) (hj) (by decide) (rfl) d_Mo_multiply_1_55 ?_
      refine lv_i2l (v := (nI (kw_d (v b) j)).toInt64) hx hb d_Mo_multiply_1_56 (rfl) ?_
      refine lv_ldc2 hx hb hown (v := lN 4294967295) (hts _ (List.mem_cons_of_mem _ kt_w476)) d_Mo_multiply_1_57 ?_
      refine lv_land hx hb d_Mo_multiply_1_60 ?_
      refine kq_rl (show ((nI (kw_d (v b) j)).toInt64) &&& (lN 4294967295) = lN (kw_d (v b) j) from kx_maskN lB) ?_
      refine lv_lmul hx hb d_Mo_multiply_1_61 ?_
      refine kq_rl (show (lN (kw_d (v a) i)) * (lN (kw_d (v b) j)) = lN (kw_d (v a) i * kw_d (v b) j) from lN_mul _ _) ?_
      refine lv_aload_n hx hb d_Mo_multiply_1_62 rfl (lv_at hl 2 rfl) ?_
      refine kq_get hx hb hts kt_F_Mo hown hK hOo rfl 8 (by decide) kt_w384 rfl d_Mo_multiply_1_63 ?_
      refine lv_iload_n hx hb d_Mo_multiply_1_66 rfl (lv_at hl 5 rfl) ?_
      refine lv_iload hx hb d_Mo_multiply_1_67 (lv_at hl 0 rfl) ?_
      refine lv_iadd hx hb d_Mo_multiply_1_69 ?_
      refine kq_ri (show (nI i) + (nI j) = nI (i + j) from nI_add _ _) ?_
      refine kq_iald hx hb (hsw) ((by omega)) (by decide) (rfl) d_Mo_multiply_1_70 ?_
      refine lv_i2l (v := (nI (kw_d (w (mo + 21)) (i + j))).toInt64) hx hb d_Mo_multiply_1_71 (rfl) ?_
      refine lv_ldc2 hx hb hown (v := lN 4294967295) (hts _ (List.mem_cons_of_mem _ kt_w476)) d_Mo_multiply_1_72 ?_
      refine lv_land hx hb d_Mo_multiply_1_75 ?_
      refine kq_rl (show ((nI (kw_d (w (mo + 21)) (i + j))).toInt64) &&& (lN 4294967295) = lN (kw_d (w (mo + 21)) (i + j)) from kx_maskN lW) ?_
      refine lv_ladd hx hb d_Mo_multiply_1_76 ?_
      refine kq_rl (show (lN (kw_d (v a) i * kw_d (v b) j)) + (lN (kw_d (w (mo + 21)) (i + j))) = lN (kw_d (v a) i * kw_d (v b) j + kw_d (w (mo + 21)) (i + j)) from lN_add _ _) ?_
      refine lv_ladd hx hb d_Mo_multiply_1_77 ?_
      refine kq_rl (show (lN cy) + (lN (kw_d (v a) i * kw_d (v b) j + kw_d (w (mo + 21)) (i + j))) = lN (cy + (kw_d (v a) i * kw_d (v b) j + kw_d (w (mo + 21)) (i + j))) from lN_add _ _) ?_
      refine lv_lstore hx hb d_Mo_multiply_1_78 hl (by decide) rfl (fun ls hl => ?_)
      have hl : lv_has ls 7 [(4, .long (lN (cy + (kw_d (v a) i * kw_d (v b) j + kw_d (w (mo + 21)) (i + j))))), (6, .int (nI j)), (0, .ref mo), (1, .ref a), (2, .ref b), (3, .int (nI i))] := hl
      refine lv_aload_n hx hb d_Mo_multiply_1_80 rfl (lv_at hl 2 rfl) ?_
      refine kq_get hx hb hts kt_F_Mo hown hK hOo rfl 8 (by decide) kt_w384 rfl d_Mo_multiply_1_81 ?_
      refine lv_iload_n hx hb d_Mo_multiply_1_84 rfl (lv_at hl 5 rfl) ?_
      refine lv_iload hx hb d_Mo_multiply_1_85 (lv_at hl 1 rfl) ?_
      refine lv_iadd hx hb d_Mo_multiply_1_87 ?_
      refine kq_ri (show (nI i) + (nI j) = nI (i + j) from nI_add _ _) ?_
      refine lv_lload hx hb d_Mo_multiply_1_88 (lv_at hl 0 rfl) ?_
      refine lv_l2i (v := nI ((cy + (kw_d (v a) i * kw_d (v b) j + kw_d (w (mo + 21)) (i + j))) % 4294967296)) hx hb d_Mo_multiply_1_90 (by rw [lN_i, nI_mod]) ?_
      refine kq_iast hx hb (hT) (hw1) ((by omega)) (by decide) (lx) d_Mo_multiply_1_91 ?_
      refine lv_lload hx hb d_Mo_multiply_1_92 (lv_at hl 0 rfl) ?_
      refine lv_bipush (v := nI 32) hx hb d_Mo_multiply_1_94 (by decide) ?_
      refine lv_lushr (v := lN ((cy + (kw_d (v a) i * kw_d (v b) j + kw_d (w (mo + 21)) (i + j))) / 4294967296)) hx hb d_Mo_multiply_1_96 (kq_ushr32 (by omega)) ?_
      refine lv_lstore hx hb d_Mo_multiply_1_97 hl (by decide) rfl (fun ls hl => ?_)
      have hl : lv_has ls 7 [(4, .long (lN ((cy + (kw_d (v a) i * kw_d (v b) j + kw_d (w (mo + 21)) (i + j))) / 4294967296))), (6, .int (nI j)), (0, .ref mo), (1, .ref a), (2, .ref b), (3, .int (nI i))] := hl
      refine lv_iinc (k := 1) (v := nI (j + 1)) hx hb d_Mo_multiply_1_99 hl rfl (kq_inc j) (by decide) rfl (fun ls hl => ?_)
      have hl : lv_has ls 7 [(6, .int (nI (j + 1))), (4, .long (lN ((cy + (kw_d (v a) i * kw_d (v b) j + kw_d (w (mo + 21)) (i + j))) / 4294967296))), (0, .ref mo), (1, .ref a), (2, .ref b), (3, .int (nI i))] := hl
      refine lv_goto hx hb d_Mo_multiply_1_102 rfl ?_
      refine ih (j + 1) _ _ ((cy + (kw_d (v a) i * kw_d (v b) j + kw_d (w (mo + 21)) (i + j))) / 4294967296) ls _ (by omega) hW1 (by rw [kq_up_at]; exact kw_s_lt hV (by omega) lx) (by omega) ?_ (fun q hq => by rw [kq_up_ne hq]; exact ho q hq) (t_lc (free := fun q => q = mo + 21) hlc rfl) (lv_sub hl [0, 1, 2, 3, 4, 5] rfl)
      rw [kq_up_at, kw_d_lo, show kw_M (i + (j + 1)) = kw_M (i + j) * 4294967296 from kw_M_s (i + j)]
      exact kp_row_step (kw_s_eq (w (mo + 21)) (i + j) _) (by omega) (Nat.div_add_mod _ _).symm (kw_M_add i j) hI
set_option maxHeartbeats 4000000 in
set_option maxRecDepth 100000 in
theorem lo_Mo_multiply_1 (hx : p.tables.exec = Jvm.exec) (hb : c.code = b_Mo_multiply_1) (hts : ∀ w ∈ w_Mo_multiply_1, w.before args s = true) (hown : s.vm.findClass R_Mo = some m.cls) {E : ks_E} {mo : Nat} {far : Bool} (hE : ks_ok E) (hO : ks_O E mo far) (hB : ks_B E s) {a b : Nat} {v : Nat → Nat} (ha : ks_in E a) (hb0 : ks_in E b) (hla : v a < kw_M 8) (hlb : v b < kw_M 8)
    (kk : ∀ (w : Nat → Nat) (H : Heap) (ls : Array Slot) (locs : List Loc), ks_W E w H → w (mo + 21) = v a * v b → (∀ q, q ≠ mo + 21 → w q = v q) → (∀ q ∈ locs, q.base = mo + 21) → W p l e R s m args below meth c H locs 0 0 Q (F0 m 123 ls [])) :
    ∀ (n i : Nat) (w : Nat → Nat) (H : Heap) (ls : Array Slot) (locs : List Loc), i + n = 8 → ks_W E w H → w (mo + 21) = v a % kw_M i * v b → (∀ q, q ≠ mo + 21 → w q = v q) → (∀ q ∈ locs, q.base = mo + 21) → lv_has ls 7 [(3, .int (nI i)), (0, .ref mo), (1, .ref a), (2, .ref b)] → W p l e R s m args below meth c H locs 0 0 Q (F0 m 23 ls []) := by
  intro n
  induction n with
  | zero =>
    intro i w H ls locs hn hW h1 ho hlc hl
    obtain rfl : i = 8 := by omega
    refine lv_iload_n hx hb d_Mo_multiply_1_23 rfl (lv_at hl 0 rfl) ?_
    refine lv_bipush (v := nI 8) hx hb d_Mo_multiply_1_24 (by decide) ?_
    refine lv_icmp_ge hx hb d_Mo_multiply_1_26 rfl (fun hc => ?_) (fun hc => ?_)
    · rw [Nat.mod_eq_of_lt hla] at h1
      exact kk w H ls locs hW h1 ho hlc
    · exact absurd (nI_le (Nat.le_refl 8) (by decide)) hc
  | succ n ih =>
    intro i w H ls locs hn hW h1 ho hlc hl
    have hi : i < 8 := by omega
    have hK := hB.1
    have hT := ks_T hE hB
    have hwd := hO.2.2.2.1
    have hstep : v a % kw_M (i + 1) * v b = v a % kw_M i * v b + kw_d (v a) i * v b * kw_M i := by
      rw [kw_d_lo, Nat.add_mul, Nat.mul_comm (kw_M i), Nat.mul_assoc, Nat.mul_comm (kw_M i) (v b), ← Nat.mul_assoc]
    have hV0 : w (mo + 21) < kw_M (i + 8) := by
      rw [h1, kw_M_add]
      exact Nat.mul_lt_mul_of_lt_of_le (Nat.mod_lt _ (kw_M_pos i)) (Nat.le_of_lt hlb) (kw_M_pos 8)
    refine lv_iload_n hx hb d_Mo_multiply_1_23 rfl (lv_at hl 0 rfl) ?_
    refine lv_bipush (v := nI 8) hx hb d_Mo_multiply_1_24 (by decide) ?_
    refine lv_icmp_ge hx hb d_Mo_multiply_1_26 rfl (fun hc => ?_) (fun hc => ?_)
    · exact absurd hc (nI_ge hi (by decide))
    · refine lv_lconst (v := lN 0) hx hb d_Mo_multiply_1_29 (by decide) ?_
      refine lv_lstore hx hb d_Mo_multiply_1_30 hl (by decide) rfl (fun ls hl => ?_)
      have hl : lv_has ls 7 [(4, .long (lN 0)), (3, .int (nI i)), (0, .ref mo), (1, .ref a), (2, .ref b)] := hl
      refine lv_iconst (v := nI 0) hx hb d_Mo_multiply_1_32 (by decide) ?_
      refine lv_istore hx hb d_Mo_multiply_1_33 hl (by decide) rfl (fun ls hl => ?_)
      have hl : lv_has ls 7 [(6, .int (nI 0)), (4, .long (lN 0)), (3, .int (nI i)), (0, .ref mo), (1, .ref a), (2, .ref b)] := hl
      refine li_Mo_multiply_1 hx hb hts hown hE hO hB (v := v) (V0 := w (mo + 21)) (i := i) ha hb0 hi (fun w2 H2 cy ls L2 hW2 hV2 hcy hI2 ho2 hL2 hl => ?_) 8 0 w H 0 ls locs rfl hW hV0 (by decide) (by rw [kw_M_0, Nat.mod_one, Nat.zero_mul, Nat.mul_zero, Nat.zero_mul]) ho hlc (lv_sub hl [0, 1, 3, 4, 5, 2] rfl)
      have hOo := ks_obj hW2 hO.1 hO.2.1
      obtain ⟨hw1, hw2⟩ := ks_wide hO hW2
      have hW3 := ks_putn hE hW2 hwd.1 hwd.2 (kw_s_lt hw2 (show i + 8 < 16 by omega) hcy)
      have hz : kw_d (w2 (mo + 21)) (i + 8) = 0 := kw_d_big hV2 (Nat.le_refl _)
      have hs3 := kw_s_eq (w2 (mo + 21)) (i + 8) cy
      rw [hz, Nat.mul_zero, Nat.add_zero, Nat.mul_comm (kw_M (i + 8)) cy, hI2, Nat.mod_eq_of_lt hlb, h1, ← hstep] at hs3
      refine lv_aload_n hx hb d_Mo_multiply_1_105 rfl (lv_at hl 1 rfl) ?_
      refine kq_get hx hb hts kt_F_Mo hown hK hOo rfl 8 (by decide) kt_w384 rfl d_Mo_multiply_1_106 ?_
      refine lv_iload_n hx hb d_Mo_multiply_1_109 rfl (lv_at hl 4 rfl) ?_
      refine lv_bipush (v := nI 8) hx hb d_Mo_multiply_1_110 (by decide) ?_
      refine lv_iadd hx hb d_Mo_multiply_1_112 ?_
      refine kq_ri (show (nI i) + (nI 8) = nI (i + 8) from nI_add _ _) ?_
      refine lv_lload hx hb d_Mo_multiply_1_113 (lv_at hl 0 rfl) ?_
      refine lv_l2i (v := nI cy) hx hb d_Mo_multiply_1_115 (lN_i _) ?_
      refine kq_iast hx hb (hT) (hw1) ((by omega)) (by decide) (hcy) d_Mo_multiply_1_116 ?_
      refine lv_iinc (k := 4) (v := nI (i + 1)) hx hb d_Mo_multiply_1_117 hl rfl (kq_inc i) (by decide) rfl (fun ls hl => ?_)
      have hl : lv_has ls 7 [(3, .int (nI (i + 1))), (4, .long (lN cy)), (0, .ref mo), (1, .ref a), (2, .ref b)] := hl
      refine lv_goto hx hb d_Mo_multiply_1_120 rfl ?_
      refine ih (i + 1) _ _ ls _ (by omega) hW3 (by rw [kq_up_at, hs3]) (fun q hq => by rw [kq_up_ne hq]; exact ho2 q hq) (t_lc (free := fun q => q = mo + 21) hL2 rfl) (lv_sub hl [0, 2, 3, 4] rfl)
end
set_option maxHeartbeats 4000000 in
set_option maxRecDepth 100000 in
theorem c_Mo_multiply_1 (l : Launch) (E : ks_E) (A : Nat → Nat) (mo : Nat) (far : Bool) (v : Nat → Nat) (H : Heap) (hE : ks_ok E) (hA : ks_A E A) (hO : ks_O E mo far) (hW : ks_W E v H) (a b : Nat) (ha : ks_in E a) (hb0 : ks_in E b) : Met l y_Mo_multiply_1 w_Mo_multiply_1 ({ frames := 0, cells := 0, slots := 0, locals := 0 }) (kq_P [.ref mo, .ref a, .ref b] H (ks_B E)) (kq_Q (fun o H1 => o = none ∧ ks_W E (va_up v (mo + 21) (v a * v b)) H1)) 0 0 (fun q => q = mo + 21) := by
  refine Met.ofW (cc := b_Mo_multiply_1) (maxL := 7) (ret := none) (by decide) rfl ?_
  intro p e s m args below meth c s₁ B0 hml hv
  obtain ⟨rfl, hH, hB⟩ := hv
  have hx := B0.exec
  have hb := B0.bytes
  have hret := B0.returns
  have hts := atoms_spec (ws := w_Mo_multiply_1) B0.pre
  have hown : s.vm.findClass R_Mo = some m.cls := findClass_of_methodNamed B0.named
  have hlocks := B0.notSynchronized
  rw [hH]
  have hl := lv_entry ([.ref mo, .ref a, .ref b]) (n := 7) (Nat.le_of_ble_eq_true rfl)
  rw [lg_entry_eq]
  generalize (lg_sl ([.ref mo, .ref a, .ref b]) ++ List.replicate (7 - (lg_sl ([.ref mo, .ref a, .ref b])).length) Slot.unset).toArray = ls at hl ⊢
  have hl : lv_has ls 7 [(0, .ref mo), (1, .ref a), (2, .ref b)] := hl
  have hla := ks_lt hE hW ha
  have hlb := ks_lt hE hW hb0
  refine lv_iconst (v := nI 0) hx hb d_Mo_multiply_1_0 (by decide) ?_
  refine lv_istore_n hx hb d_Mo_multiply_1_1 rfl hl (by decide) rfl (fun ls hl => ?_)
  have hl : lv_has ls 7 [(3, .int (nI 0)), (0, .ref mo), (1, .ref a), (2, .ref b)] := hl
  refine la_Mo_multiply_1 hx hb hts hown hE hO hB (v := v) (fun w1 H1 ls L1 hW1 h1 ho1 hL1 hl => ?_) 16 0 v H ls [] rfl hW (by rw [kw_M_0, Nat.mod_one]) (fun _ _ => rfl) (fun q h => by cases h) (lv_sub hl [0, 1, 2, 3] rfl)
  refine lv_iconst (v := nI 0) hx hb d_Mo_multiply_1_21 (by decide) ?_
  refine lv_istore_n hx hb d_Mo_multiply_1_22 rfl hl (by decide) rfl (fun ls hl => ?_)
  have hl : lv_has ls 7 [(3, .int (nI 0)), (0, .ref mo), (1, .ref a), (2, .ref b)] := hl
  refine lo_Mo_multiply_1 hx hb hts hown hE hO hB (v := v) ha hb0 hla hlb (fun w2 H2 ls L2 hW2 h2 ho2 hL2 => ?_) 8 0 w1 H1 ls L1 rfl hW1 (by rw [h1, kw_M_0, Nat.mod_one, Nat.zero_mul]) ho1 hL1 (lv_sub hl [0, 1, 2, 3] rfl)
  refine W.vret hx hb hret (fun t ht _ => ⟨_, rfl, rfl, ?_⟩) hL2 d_Mo_multiply_1_123
  rw [ht]
  refine ks_same (fun q => ?_) hW2
  by_cases e : q = mo + 21
  · subst e
    rw [kq_up_at, h2]
  · rw [kq_up_ne e]
    exact ho2 q e
end
section
/-! KeyCurveModel: times of rows (own rows). -/
def kx_T (V k : Nat) : Nat := V % kw_M k + V / kw_M 8 % kw_M k * 977 + (if k = 0 then 0 else V / kw_M 8 % kw_M (k - 1) * 4294967296)
theorem kx_T_s (V k : Nat) : kx_T V (k + 1) = kx_T V k + kw_M k * (kw_d V k + kw_d V (8 + k) * 977 + (if k = 0 then 0 else kw_d V (7 + k))) := by
  unfold kx_T
  rw [if_neg (Nat.succ_ne_zero k), Nat.add_sub_cancel, kw_d_lo V k, kw_d_lo (V / kw_M 8) k, kw_d_shift]
  cases k with
  | zero =>
    rw [if_pos rfl, if_pos rfl, kw_M_0, Nat.mod_one]
    omega
  | succ j =>
    rw [if_neg (Nat.succ_ne_zero j), if_neg (Nat.succ_ne_zero j), Nat.add_sub_cancel, kw_d_lo (V / kw_M 8) j, kw_d_shift, show 7 + (j + 1) = 8 + j by omega]
    have e : kw_M (j + 1) = kw_M j * 4294967296 := kw_M_s j
    generalize kw_d V (8 + j) = x
    generalize kw_d V (8 + (j + 1)) = y
    generalize kw_d V (j + 1) = z
    generalize kw_M (j + 1) = M1 at *
    generalize kw_M j = M0 at *
    subst e
    grind
theorem kx_T_end {V : Nat} (hV : V < kw_M 16) : kx_T V 8 + kw_d V 15 * kw_M 8 = kp_fold kG_P V := by
  have hh := kw_div_lt hV
  have e7 := kw_d_lo (V / kw_M 8) 7
  rw [Nat.mod_eq_of_lt hh, kw_d_shift] at e7
  have e8 : kw_M 8 = kw_M 7 * 4294967296 := kw_M_s 7
  unfold kx_T kp_fold kG_P
  rw [Nat.mod_eq_of_lt hh, if_neg (by decide), show 8 - 1 = 7 by decide]
  have e9 : kw_d V 15 * kw_M 8 = kw_M 7 * kw_d V (8 + 7) * 4294967296 := by
    rw [e8, Nat.mul_comm, Nat.mul_assoc, Nat.mul_comm 4294967296, ← Nat.mul_assoc]
  rw [e9]
  generalize V / kw_M 8 = Hh at *
  generalize Hh % kw_M 7 = lo at *
  generalize kw_M 7 * kw_d V (8 + 7) = hi at *
  omega
def kx_U (R ov k : Nat) : Nat := R % kw_M k + (if k = 0 then 0 else ov * 977) + (if k ≤ 1 then 0 else ov * 4294967296)
theorem kx_U_s (R ov k : Nat) : kx_U R ov (k + 1) = kx_U R ov k + kw_M k * (kw_d R k + (if k = 0 then ov * 977 else if k = 1 then ov else 0)) := by
  unfold kx_U
  rw [kw_d_lo R k]
  rcases (show k = 0 ∨ k = 1 ∨ 2 ≤ k by omega) with e | e | e
  · subst e
    rw [kw_M_0]
    rw [if_pos (show 0 + 1 ≤ 1 by decide), if_pos (show 0 ≤ 1 by decide), if_pos rfl, if_pos rfl, if_neg (show ¬ 0 + 1 = 0 by decide)]
    omega
  · subst e
    have e1 : kw_M 1 = 4294967296 := by decide
    rw [e1]
    simp
    omega
  · rw [if_neg (by omega), if_neg (by omega), if_neg (by omega), if_neg (by omega), if_neg (by omega), if_neg (by omega), Nat.add_zero]
    omega
theorem kx_step {lo lo' cy c' x s M T add : Nat} (h1 : lo' = lo + M * x) (h2 : s = cy + add) (h3 : s = 4294967296 * c' + x) (hI : lo + cy * M = T) : lo' + c' * (M * 4294967296) = T + M * add := by
  have a1 : M * s = cy * M + M * add := by rw [h2]; grind
  have a2 : M * s = c' * (M * 4294967296) + M * x := by rw [h3]; grind
  omega
theorem kq_cmp_le {a b : Nat} (ha : a < 9223372036854775808) (hb : b < 9223372036854775808) : lg_cmp (lN a) (lN b) ≤ 0 ↔ a ≤ b := by
  unfold lg_cmp
  have h1 := pk_lLT (a := b) (b := a) (by omega) (by omega)
  by_cases h : b < a
  · rw [if_pos (show lN a > lN b from h1.mpr h)]
    exact ⟨fun q => absurd q (by decide), fun q => by omega⟩
  · rw [if_neg (show ¬ lN a > lN b from fun q => h (h1.mp q))]
    refine ⟨fun _ => by omega, fun _ => ?_⟩
    split <;> decide
theorem kx_U_end {R ov : Nat} (h : R < kw_M 8) : kx_U R ov 8 = kp_fold kG_P (R + ov * kw_M 8) := by
  unfold kx_U kp_fold kG_P
  rw [if_neg (by decide), if_neg (by decide), Nat.add_mul_mod_self_right, Nat.mod_eq_of_lt h, Nat.add_mul_div_right _ _ (kw_M_pos 8), Nat.div_eq_of_lt h]
  omega
theorem kx_T_0 (V : Nat) : kx_T V 0 = 0 := by
  unfold kx_T
  rw [kw_M_0, Nat.mod_one, Nat.mod_one, if_pos rfl]
theorem kx_U_0 (R ov : Nat) : kx_U R ov 0 = 0 := by
  unfold kx_U
  rw [kw_M_0, Nat.mod_one, if_pos rfl, if_pos (by decide)]
theorem kp_folds_s (G n V : Nat) : kp_folds G (n + 1) V = kp_folds G n (kp_fold G V) := rfl
theorem kp_folds_z (G V : Nat) : kp_folds G 0 V = V := rfl
theorem d_Mo_times_1_0 : decode b_Mo_times_1 0 = .ok (.aload_n 0, 1) := by decide +kernel
theorem d_Mo_times_1_1 : decode b_Mo_times_1 1 = .ok (.aload_n 2, 1) := by decide +kernel
theorem d_Mo_times_1_2 : decode b_Mo_times_1 2 = .ok (.aload_n 3, 1) := by decide +kernel
theorem d_Mo_times_1_3 : decode b_Mo_times_1 3 = .ok (.invokevirtual 84, 3) := by decide +kernel
theorem d_Mo_times_1_6 : decode b_Mo_times_1 6 = .ok (.lconst 0, 1) := by decide +kernel
theorem d_Mo_times_1_7 : decode b_Mo_times_1 7 = .ok (.lstore 4, 2) := by decide +kernel
theorem d_Mo_times_1_9 : decode b_Mo_times_1 9 = .ok (.iconst 0, 1) := by decide +kernel
theorem d_Mo_times_1_10 : decode b_Mo_times_1 10 = .ok (.istore 6, 2) := by decide +kernel
theorem d_Mo_times_1_12 : decode b_Mo_times_1 12 = .ok (.iload 6, 2) := by decide +kernel
theorem d_Mo_times_1_14 : decode b_Mo_times_1 14 = .ok (.bipush 8, 2) := by decide +kernel
theorem d_Mo_times_1_16 : decode b_Mo_times_1 16 = .ok (.if_icmp .ge 85, 3) := by decide +kernel
theorem d_Mo_times_1_19 : decode b_Mo_times_1 19 = .ok (.lload 4, 2) := by decide +kernel
theorem d_Mo_times_1_21 : decode b_Mo_times_1 21 = .ok (.aload_n 0, 1) := by decide +kernel
theorem d_Mo_times_1_22 : decode b_Mo_times_1 22 = .ok (.getfield 37, 3) := by decide +kernel
theorem d_Mo_times_1_25 : decode b_Mo_times_1 25 = .ok (.iload 6, 2) := by decide +kernel
theorem d_Mo_times_1_27 : decode b_Mo_times_1 27 = .ok (.iaload, 1) := by decide +kernel
theorem d_Mo_times_1_28 : decode b_Mo_times_1 28 = .ok (.i2l, 1) := by decide +kernel
theorem d_Mo_times_1_29 : decode b_Mo_times_1 29 = .ok (.ldc2_w 76, 3) := by decide +kernel
theorem d_Mo_times_1_32 : decode b_Mo_times_1 32 = .ok (.land, 1) := by decide +kernel
theorem d_Mo_times_1_33 : decode b_Mo_times_1 33 = .ok (.aload_n 0, 1) := by decide +kernel
theorem d_Mo_times_1_34 : decode b_Mo_times_1 34 = .ok (.getfield 37, 3) := by decide +kernel
theorem d_Mo_times_1_37 : decode b_Mo_times_1 37 = .ok (.bipush 8, 2) := by decide +kernel
theorem d_Mo_times_1_39 : decode b_Mo_times_1 39 = .ok (.iload 6, 2) := by decide +kernel
theorem d_Mo_times_1_41 : decode b_Mo_times_1 41 = .ok (.iadd, 1) := by decide +kernel
theorem d_Mo_times_1_42 : decode b_Mo_times_1 42 = .ok (.iaload, 1) := by decide +kernel
theorem d_Mo_times_1_43 : decode b_Mo_times_1 43 = .ok (.i2l, 1) := by decide +kernel
theorem d_Mo_times_1_44 : decode b_Mo_times_1 44 = .ok (.ldc2_w 76, 3) := by decide +kernel
theorem d_Mo_times_1_47 : decode b_Mo_times_1 47 = .ok (.land, 1) := by decide +kernel
theorem d_Mo_times_1_48 : decode b_Mo_times_1 48 = .ok (.ldc2_w 88, 3) := by decide +kernel
theorem d_Mo_times_1_51 : decode b_Mo_times_1 51 = .ok (.lmul, 1) := by decide +kernel
theorem d_Mo_times_1_52 : decode b_Mo_times_1 52 = .ok (.ladd, 1) := by decide +kernel
theorem d_Mo_times_1_53 : decode b_Mo_times_1 53 = .ok (.iload 6, 2) := by decide +kernel
theorem d_Mo_times_1_55 : decode b_Mo_times_1 55 = .ok (.ifCond .le 21, 3) := by decide +kernel
theorem d_Mo_times_1_58 : decode b_Mo_times_1 58 = .ok (.aload_n 0, 1) := by decide +kernel
theorem d_Mo_times_1_59 : decode b_Mo_times_1 59 = .ok (.getfield 37, 3) := by decide +kernel
theorem d_Mo_times_1_62 : decode b_Mo_times_1 62 = .ok (.bipush 7, 2) := by decide +kernel
theorem d_Mo_times_1_64 : decode b_Mo_times_1 64 = .ok (.iload 6, 2) := by decide +kernel
theorem d_Mo_times_1_66 : decode b_Mo_times_1 66 = .ok (.iadd, 1) := by decide +kernel
theorem d_Mo_times_1_67 : decode b_Mo_times_1 67 = .ok (.iaload, 1) := by decide +kernel
theorem d_Mo_times_1_68 : decode b_Mo_times_1 68 = .ok (.i2l, 1) := by decide +kernel
theorem d_Mo_times_1_69 : decode b_Mo_times_1 69 = .ok (.ldc2_w 76, 3) := by decide +kernel
theorem d_Mo_times_1_72 : decode b_Mo_times_1 72 = .ok (.land, 1) := by decide +kernel
theorem d_Mo_times_1_73 : decode b_Mo_times_1 73 = .ok (.goto 4, 3) := by decide +kernel
theorem d_Mo_times_1_76 : decode b_Mo_times_1 76 = .ok (.lconst 0, 1) := by decide +kernel
theorem d_Mo_times_1_77 : decode b_Mo_times_1 77 = .ok (.ladd, 1) := by decide +kernel
theorem d_Mo_times_1_78 : decode b_Mo_times_1 78 = .ok (.ladd, 1) := by decide +kernel
theorem d_Mo_times_1_79 : decode b_Mo_times_1 79 = .ok (.lstore 4, 2) := by decide +kernel
theorem d_Mo_times_1_81 : decode b_Mo_times_1 81 = .ok (.aload_n 1, 1) := by decide +kernel
theorem d_Mo_times_1_82 : decode b_Mo_times_1 82 = .ok (.iload 6, 2) := by decide +kernel
theorem d_Mo_times_1_84 : decode b_Mo_times_1 84 = .ok (.lload 4, 2) := by decide +kernel
theorem d_Mo_times_1_86 : decode b_Mo_times_1 86 = .ok (.l2i, 1) := by decide +kernel
theorem d_Mo_times_1_87 : decode b_Mo_times_1 87 = .ok (.iastore, 1) := by decide +kernel
theorem d_Mo_times_1_88 : decode b_Mo_times_1 88 = .ok (.lload 4, 2) := by decide +kernel
theorem d_Mo_times_1_90 : decode b_Mo_times_1 90 = .ok (.bipush 32, 2) := by decide +kernel
theorem d_Mo_times_1_92 : decode b_Mo_times_1 92 = .ok (.lushr, 1) := by decide +kernel
theorem d_Mo_times_1_93 : decode b_Mo_times_1 93 = .ok (.lstore 4, 2) := by decide +kernel
theorem d_Mo_times_1_95 : decode b_Mo_times_1 95 = .ok (.iinc 6 1, 3) := by decide +kernel
theorem d_Mo_times_1_98 : decode b_Mo_times_1 98 = .ok (.goto (-86), 3) := by decide +kernel
theorem d_Mo_times_1_101 : decode b_Mo_times_1 101 = .ok (.lload 4, 2) := by decide +kernel
theorem d_Mo_times_1_103 : decode b_Mo_times_1 103 = .ok (.aload_n 0, 1) := by decide +kernel
theorem d_Mo_times_1_104 : decode b_Mo_times_1 104 = .ok (.getfield 37, 3) := by decide +kernel
theorem d_Mo_times_1_107 : decode b_Mo_times_1 107 = .ok (.bipush 15, 2) := by decide +kernel
theorem d_Mo_times_1_109 : decode b_Mo_times_1 109 = .ok (.iaload, 1) := by decide +kernel
theorem d_Mo_times_1_110 : decode b_Mo_times_1 110 = .ok (.i2l, 1) := by decide +kernel
theorem d_Mo_times_1_111 : decode b_Mo_times_1 111 = .ok (.ldc2_w 76, 3) := by decide +kernel
theorem d_Mo_times_1_114 : decode b_Mo_times_1 114 = .ok (.land, 1) := by decide +kernel
theorem d_Mo_times_1_115 : decode b_Mo_times_1 115 = .ok (.ladd, 1) := by decide +kernel
theorem d_Mo_times_1_116 : decode b_Mo_times_1 116 = .ok (.lstore 6, 2) := by decide +kernel
theorem d_Mo_times_1_118 : decode b_Mo_times_1 118 = .ok (.lload 6, 2) := by decide +kernel
theorem d_Mo_times_1_120 : decode b_Mo_times_1 120 = .ok (.lconst 0, 1) := by decide +kernel
theorem d_Mo_times_1_121 : decode b_Mo_times_1 121 = .ok (.lcmp, 1) := by decide +kernel
theorem d_Mo_times_1_122 : decode b_Mo_times_1 122 = .ok (.ifCond .le 84, 3) := by decide +kernel
theorem d_Mo_times_1_125 : decode b_Mo_times_1 125 = .ok (.lconst 0, 1) := by decide +kernel
theorem d_Mo_times_1_126 : decode b_Mo_times_1 126 = .ok (.lstore 4, 2) := by decide +kernel
theorem d_Mo_times_1_128 : decode b_Mo_times_1 128 = .ok (.iconst 0, 1) := by decide +kernel
theorem d_Mo_times_1_129 : decode b_Mo_times_1 129 = .ok (.istore 8, 2) := by decide +kernel
theorem d_Mo_times_1_131 : decode b_Mo_times_1 131 = .ok (.iload 8, 2) := by decide +kernel
theorem d_Mo_times_1_133 : decode b_Mo_times_1 133 = .ok (.bipush 8, 2) := by decide +kernel
theorem d_Mo_times_1_135 : decode b_Mo_times_1 135 = .ok (.if_icmp .ge 64, 3) := by decide +kernel
theorem d_Mo_times_1_138 : decode b_Mo_times_1 138 = .ok (.lload 4, 2) := by decide +kernel
theorem d_Mo_times_1_140 : decode b_Mo_times_1 140 = .ok (.aload_n 1, 1) := by decide +kernel
theorem d_Mo_times_1_141 : decode b_Mo_times_1 141 = .ok (.iload 8, 2) := by decide +kernel
theorem d_Mo_times_1_143 : decode b_Mo_times_1 143 = .ok (.iaload, 1) := by decide +kernel
theorem d_Mo_times_1_144 : decode b_Mo_times_1 144 = .ok (.i2l, 1) := by decide +kernel
theorem d_Mo_times_1_145 : decode b_Mo_times_1 145 = .ok (.ldc2_w 76, 3) := by decide +kernel
theorem d_Mo_times_1_148 : decode b_Mo_times_1 148 = .ok (.land, 1) := by decide +kernel
theorem d_Mo_times_1_149 : decode b_Mo_times_1 149 = .ok (.iload 8, 2) := by decide +kernel
theorem d_Mo_times_1_151 : decode b_Mo_times_1 151 = .ok (.ifCond .ne 12, 3) := by decide +kernel
theorem d_Mo_times_1_154 : decode b_Mo_times_1 154 = .ok (.lload 6, 2) := by decide +kernel
theorem d_Mo_times_1_156 : decode b_Mo_times_1 156 = .ok (.ldc2_w 88, 3) := by decide +kernel
theorem d_Mo_times_1_159 : decode b_Mo_times_1 159 = .ok (.lmul, 1) := by decide +kernel
theorem d_Mo_times_1_160 : decode b_Mo_times_1 160 = .ok (.goto 15, 3) := by decide +kernel
theorem d_Mo_times_1_163 : decode b_Mo_times_1 163 = .ok (.iload 8, 2) := by decide +kernel
theorem d_Mo_times_1_165 : decode b_Mo_times_1 165 = .ok (.iconst 1, 1) := by decide +kernel
theorem d_Mo_times_1_166 : decode b_Mo_times_1 166 = .ok (.if_icmp .ne 8, 3) := by decide +kernel
theorem d_Mo_times_1_169 : decode b_Mo_times_1 169 = .ok (.lload 6, 2) := by decide +kernel
theorem d_Mo_times_1_171 : decode b_Mo_times_1 171 = .ok (.goto 4, 3) := by decide +kernel
theorem d_Mo_times_1_174 : decode b_Mo_times_1 174 = .ok (.lconst 0, 1) := by decide +kernel
theorem d_Mo_times_1_175 : decode b_Mo_times_1 175 = .ok (.ladd, 1) := by decide +kernel
theorem d_Mo_times_1_176 : decode b_Mo_times_1 176 = .ok (.ladd, 1) := by decide +kernel
theorem d_Mo_times_1_177 : decode b_Mo_times_1 177 = .ok (.lstore 4, 2) := by decide +kernel
theorem d_Mo_times_1_179 : decode b_Mo_times_1 179 = .ok (.aload_n 1, 1) := by decide +kernel
theorem d_Mo_times_1_180 : decode b_Mo_times_1 180 = .ok (.iload 8, 2) := by decide +kernel
theorem d_Mo_times_1_182 : decode b_Mo_times_1 182 = .ok (.lload 4, 2) := by decide +kernel
theorem d_Mo_times_1_184 : decode b_Mo_times_1 184 = .ok (.l2i, 1) := by decide +kernel
theorem d_Mo_times_1_185 : decode b_Mo_times_1 185 = .ok (.iastore, 1) := by decide +kernel
theorem d_Mo_times_1_186 : decode b_Mo_times_1 186 = .ok (.lload 4, 2) := by decide +kernel
theorem d_Mo_times_1_188 : decode b_Mo_times_1 188 = .ok (.bipush 32, 2) := by decide +kernel
theorem d_Mo_times_1_190 : decode b_Mo_times_1 190 = .ok (.lushr, 1) := by decide +kernel
theorem d_Mo_times_1_191 : decode b_Mo_times_1 191 = .ok (.lstore 4, 2) := by decide +kernel
theorem d_Mo_times_1_193 : decode b_Mo_times_1 193 = .ok (.iinc 8 1, 3) := by decide +kernel
theorem d_Mo_times_1_196 : decode b_Mo_times_1 196 = .ok (.goto (-65), 3) := by decide +kernel
theorem d_Mo_times_1_199 : decode b_Mo_times_1 199 = .ok (.lload 4, 2) := by decide +kernel
theorem d_Mo_times_1_201 : decode b_Mo_times_1 201 = .ok (.lstore 6, 2) := by decide +kernel
theorem d_Mo_times_1_203 : decode b_Mo_times_1 203 = .ok (.goto (-85), 3) := by decide +kernel
theorem d_Mo_times_1_206 : decode b_Mo_times_1 206 = .ok (.aload_n 1, 1) := by decide +kernel
theorem d_Mo_times_1_207 : decode b_Mo_times_1 207 = .ok (.getstatic 90, 3) := by decide +kernel
theorem d_Mo_times_1_210 : decode b_Mo_times_1 210 = .ok (.invokestatic 93, 3) := by decide +kernel
theorem d_Mo_times_1_213 : decode b_Mo_times_1 213 = .ok (.ifCond .lt 12, 3) := by decide +kernel
theorem d_Mo_times_1_216 : decode b_Mo_times_1 216 = .ok (.aload_n 1, 1) := by decide +kernel
theorem d_Mo_times_1_217 : decode b_Mo_times_1 217 = .ok (.aload_n 1, 1) := by decide +kernel
theorem d_Mo_times_1_218 : decode b_Mo_times_1 218 = .ok (.getstatic 90, 3) := by decide +kernel
theorem d_Mo_times_1_221 : decode b_Mo_times_1 221 = .ok (.invokestatic 97, 3) := by decide +kernel
theorem d_Mo_times_1_224 : decode b_Mo_times_1 224 = .ok (.pop, 1) := by decide +kernel
theorem d_Mo_times_1_225 : decode b_Mo_times_1 225 = .ok (.return_, 1) := by decide +kernel
section
variable {p : Program} {l : Launch} {e : Env} {R : Room} {s : State} {m : MethodId} {args : Array Value} {below : List Frame} {meth : Method} {c : Code} {cells slots : Nat} {Q : State → Prop}
set_option maxHeartbeats 4000000 in
set_option maxRecDepth 100000 in
theorem la_Mo_times_1 (hx : p.tables.exec = Jvm.exec) (hb : c.code = b_Mo_times_1) (hts : ∀ w ∈ w_Mo_times_1, w.before args s = true) (hown : s.vm.findClass R_Mo = some m.cls) {E : ks_E} {mo : Nat} {far : Bool} (hE : ks_ok E) (hO : ks_O E mo far) (hB : ks_B E s) {r : Nat} {v : Nat → Nat} (hr : ks_out E r)
    (kk : ∀ (w : Nat → Nat) (H : Heap) (cy : Nat) (ls : Array Slot) (locs : List Loc), ks_W E w H → cy ≤ 979 → w r % kw_M 8 + cy * kw_M 8 = kx_T (v (mo + 21)) 8 → (∀ q, q ≠ r → w q = v q) → (∀ q ∈ locs, q.base = r ∨ q.base = mo + 21) → lv_has ls 9 [(4, .long (lN cy)), (0, .ref mo), (1, .ref r)] → W p l e R s m args below meth c H locs 0 0 Q (F0 m 101 ls [])) :
    ∀ (n k : Nat) (w : Nat → Nat) (H : Heap) (cy : Nat) (ls : Array Slot) (locs : List Loc), k + n = 8 → ks_W E w H → cy ≤ 979 → w r % kw_M k + cy * kw_M k = kx_T (v (mo + 21)) k → (∀ q, q ≠ r → w q = v q) → (∀ q ∈ locs, q.base = r ∨ q.base = mo + 21) → lv_has ls 9 [(6, .int (nI k)), (4, .long (lN cy)), (0, .ref mo), (1, .ref r)] → W p l e R s m args below meth c H locs 0 0 Q (F0 m 12 ls []) := by
  intro n
  induction n with
  | zero =>
    intro k w H cy ls locs hn hW hcy hI ho hlc hl
    obtain rfl : k = 8 := by omega
    refine lv_iload hx hb d_Mo_times_1_12 (lv_at hl 0 rfl) ?_
    refine lv_bipush (v := nI 8) hx hb d_Mo_times_1_14 (by decide) ?_
    refine lv_icmp_ge hx hb d_Mo_times_1_16 rfl (fun hc => ?_) (fun hc => ?_)
    · exact kk w H cy ls locs hW hcy hI ho hlc (lv_sub hl [1, 2, 3] rfl)
    · exact absurd (nI_le (Nat.le_refl 8) (by decide)) hc
  | succ n ih =>
    intro k w H cy ls locs hn hW hcy hI ho hlc hl
    have hk : k < 8 := by omega
    have hK := hB.1
    have hT := ks_T hE hB
    have hOo := ks_obj hW hO.1 hO.2.1
    have hrne : mo + 21 ≠ r := (ks_in_ne hE hO (Or.inl hr)).symm
    obtain ⟨hw1, hw2⟩ := ks_wide hO hW
    rw [ho (mo + 21) hrne] at hw1 hw2
    have hsw : kq_r s .int H (mo + 21) 16 (fun j => .int (nI (kw_d (v (mo + 21)) j))) := kq_r.ofV hT hw1
    have l1 := kw_d_lt (v (mo + 21)) k
    have l2 := kw_d_lt (v (mo + 21)) (8 + k)
    have l3 := kw_d_lt (v (mo + 21)) (7 + k)
    have hlr := ks_lt hE hW (Or.inl hr)
    have hrr := ks_row hW hr
    have hTs := kx_T_s (v (mo + 21)) k
    refine lv_iload hx hb d_Mo_times_1_12 (lv_at hl 0 rfl) ?_
    refine lv_bipush (v := nI 8) hx hb d_Mo_times_1_14 (by decide) ?_
    refine lv_icmp_ge hx hb d_Mo_times_1_16 rfl (fun hc => ?_) (fun hc => ?_)
    · exact absurd hc (nI_ge hk (by decide))
    · refine lv_lload hx hb d_Mo_times_1_19 (lv_at hl 1 rfl) ?_
      refine lv_aload_n hx hb d_Mo_times_1_21 rfl (lv_at hl 2 rfl) ?_
      refine kq_get hx hb hts kt_F_Mo hown hK hOo rfl 8 (by decide) kt_w384 rfl d_Mo_times_1_22 ?_
      refine lv_iload hx hb d_Mo_times_1_25 (lv_at hl 0 rfl) ?_
      refine kq_iald hx hb (hsw) ((by omega)) (by decide) (rfl) d_Mo_times_1_27 ?_
      refine lv_i2l (v := (nI (kw_d (v (mo + 21)) k)).toInt64) hx hb d_Mo_times_1_28 (rfl) ?_
      refine lv_ldc2 hx hb hown (v := lN 4294967295) (hts _ (List.mem_cons_of_mem _ kt_w476)) d_Mo_times_1_29 ?_
      refine lv_land hx hb d_Mo_times_1_32 ?_
      refine kq_rl (show ((nI (kw_d (v (mo + 21)) k)).toInt64) &&& (lN 4294967295) = lN (kw_d (v (mo + 21)) k) from kx_maskN l1) ?_
      refine lv_aload_n hx hb d_Mo_times_1_33 rfl (lv_at hl 2 rfl) ?_
      refine kq_get hx hb hts kt_F_Mo hown hK hOo rfl 8 (by decide) kt_w384 rfl d_Mo_times_1_34 ?_
      refine lv_bipush (v := nI 8) hx hb d_Mo_times_1_37 (by decide) ?_
      refine lv_iload hx hb d_Mo_times_1_39 (lv_at hl 0 rfl) ?_
      refine lv_iadd hx hb d_Mo_times_1_41 ?_
      refine kq_ri (show (nI 8) + (nI k) = nI (8 + k) from nI_add _ _) ?_
      refine kq_iald hx hb (hsw) ((by omega)) (by decide) (rfl) d_Mo_times_1_42 ?_
      refine lv_i2l (v := (nI (kw_d (v (mo + 21)) (8 + k))).toInt64) hx hb d_Mo_times_1_43 (rfl) ?_
      refine lv_ldc2 hx hb hown (v := lN 4294967295) (hts _ (List.mem_cons_of_mem _ kt_w476)) d_Mo_times_1_44 ?_
      refine lv_land hx hb d_Mo_times_1_47 ?_
      refine kq_rl (show ((nI (kw_d (v (mo + 21)) (8 + k))).toInt64) &&& (lN 4294967295) = lN (kw_d (v (mo + 21)) (8 + k)) from kx_maskN l2) ?_
      refine lv_ldc2 hx hb hown (v := lN 977) (hts _ (List.mem_cons_of_mem _ kt_w500)) d_Mo_times_1_48 ?_
      refine lv_lmul hx hb d_Mo_times_1_51 ?_
      refine kq_rl (show (lN (kw_d (v (mo + 21)) (8 + k))) * (lN 977) = lN (kw_d (v (mo + 21)) (8 + k) * 977) from lN_mul _ _) ?_
      refine lv_ladd hx hb d_Mo_times_1_52 ?_
      refine kq_rl (show (lN (kw_d (v (mo + 21)) k)) + (lN (kw_d (v (mo + 21)) (8 + k) * 977)) = lN (kw_d (v (mo + 21)) k + kw_d (v (mo + 21)) (8 + k) * 977) from lN_add _ _) ?_
      refine lv_iload hx hb d_Mo_times_1_53 (lv_at hl 0 rfl) ?_
      refine lv_if_le hx hb d_Mo_times_1_55 rfl (fun hk0 => ?_) (fun hk0 => ?_)
      · have k0 : k = 0 := Classical.byContradiction fun q => nI_nle (n := k) (by omega) (by omega) hk0
        refine lv_lconst (v := lN 0) hx hb d_Mo_times_1_76 (by decide) ?_
        refine lv_ladd hx hb d_Mo_times_1_77 ?_
        refine kq_rl (show (lN (kw_d (v (mo + 21)) k + kw_d (v (mo + 21)) (8 + k) * 977)) + (lN 0) = lN (kw_d (v (mo + 21)) k + kw_d (v (mo + 21)) (8 + k) * 977 + 0) from lN_add _ _) ?_
        refine lv_ladd hx hb d_Mo_times_1_78 ?_
        refine kq_rl (show (lN cy) + (lN (kw_d (v (mo + 21)) k + kw_d (v (mo + 21)) (8 + k) * 977 + 0)) = lN (cy + (kw_d (v (mo + 21)) k + kw_d (v (mo + 21)) (8 + k) * 977 + 0)) from lN_add _ _) ?_
        refine lv_lstore hx hb d_Mo_times_1_79 hl (by decide) rfl (fun ls hl => ?_)
        have hl : lv_has ls 9 [(4, .long (lN (cy + (kw_d (v (mo + 21)) k + kw_d (v (mo + 21)) (8 + k) * 977 + 0)))), (6, .int (nI k)), (0, .ref mo), (1, .ref r)] := hl
        refine lv_aload_n hx hb d_Mo_times_1_81 rfl (lv_at hl 3 rfl) ?_
        refine lv_iload hx hb d_Mo_times_1_82 (lv_at hl 1 rfl) ?_
        refine lv_lload hx hb d_Mo_times_1_84 (lv_at hl 0 rfl) ?_
        refine lv_l2i (v := nI ((cy + (kw_d (v (mo + 21)) k + kw_d (v (mo + 21)) (8 + k) * 977 + 0)) % 4294967296)) hx hb d_Mo_times_1_86 (by rw [lN_i, nI_mod]) ?_
        refine kq_iast hx hb (hT) (hrr) (hk) (by decide) (Nat.mod_lt _ (by decide)) d_Mo_times_1_87 ?_
        refine lv_lload hx hb d_Mo_times_1_88 (lv_at hl 0 rfl) ?_
        refine lv_bipush (v := nI 32) hx hb d_Mo_times_1_90 (by decide) ?_
        refine lv_lushr (v := lN ((cy + (kw_d (v (mo + 21)) k + kw_d (v (mo + 21)) (8 + k) * 977 + 0)) / 4294967296)) hx hb d_Mo_times_1_92 (kq_ushr32 (by omega)) ?_
        refine lv_lstore hx hb d_Mo_times_1_93 hl (by decide) rfl (fun ls hl => ?_)
        have hl : lv_has ls 9 [(4, .long (lN ((cy + (kw_d (v (mo + 21)) k + kw_d (v (mo + 21)) (8 + k) * 977 + 0)) / 4294967296))), (6, .int (nI k)), (0, .ref mo), (1, .ref r)] := hl
        refine lv_iinc (k := 1) (v := nI (k + 1)) hx hb d_Mo_times_1_95 hl rfl (kq_inc k) (by decide) rfl (fun ls hl => ?_)
        have hl : lv_has ls 9 [(6, .int (nI (k + 1))), (4, .long (lN ((cy + (kw_d (v (mo + 21)) k + kw_d (v (mo + 21)) (8 + k) * 977 + 0)) / 4294967296))), (0, .ref mo), (1, .ref r)] := hl
        refine lv_goto hx hb d_Mo_times_1_98 rfl ?_
        have lx : (cy + (kw_d (v (mo + 21)) k + kw_d (v (mo + 21)) (8 + k) * 977 + 0)) % 4294967296 < 4294967296 := Nat.mod_lt _ (by decide)
        have hW1 := ks_put hE hW hr (kw_s_lt hlr hk lx)
        refine ih (k + 1) _ _ ((cy + (kw_d (v (mo + 21)) k + kw_d (v (mo + 21)) (8 + k) * 977 + 0)) / 4294967296) ls _ (by omega) hW1 (by omega) ?_ (fun q hq => by rw [kq_up_ne hq]; exact ho q hq) (t_lc (free := fun q => q = r ∨ q = mo + 21) hlc (Or.inl rfl)) (lv_sub hl [0, 1, 2, 3] rfl)
        rw [kq_up_at, hTs, kw_M_s, if_pos k0]
        exact kx_step (by rw [← kw_M_s]; exact kw_s_lo _ _ _ lx) rfl (Nat.div_add_mod _ _).symm hI
      · have k0 : ¬ k = 0 := fun q => hk0 (by rw [q]; decide)
        refine lv_aload_n hx hb d_Mo_times_1_58 rfl (lv_at hl 2 rfl) ?_
        refine kq_get hx hb hts kt_F_Mo hown hK hOo rfl 8 (by decide) kt_w384 rfl d_Mo_times_1_59 ?_
        refine lv_bipush (v := nI 7) hx hb d_Mo_times_1_62 (by decide) ?_
        refine lv_iload hx hb d_Mo_times_1_64 (lv_at hl 0 rfl) ?_
        refine lv_iadd hx hb d_Mo_times_1_66 ?_
        refine kq_ri (show (nI 7) + (nI k) = nI (7 + k) from nI_add _ _) ?_
        refine kq_iald hx hb (hsw) ((by omega)) (by decide) (rfl) d_Mo_times_1_67 ?_
        refine lv_i2l (v := (nI (kw_d (v (mo + 21)) (7 + k))).toInt64) hx hb d_Mo_times_1_68 (rfl) ?_
        refine lv_ldc2 hx hb hown (v := lN 4294967295) (hts _ (List.mem_cons_of_mem _ kt_w476)) d_Mo_times_1_69 ?_
        refine lv_land hx hb d_Mo_times_1_72 ?_
        refine kq_rl (show ((nI (kw_d (v (mo + 21)) (7 + k))).toInt64) &&& (lN 4294967295) = lN (kw_d (v (mo + 21)) (7 + k)) from kx_maskN l3) ?_
        refine lv_goto hx hb d_Mo_times_1_73 rfl ?_
        refine lv_ladd hx hb d_Mo_times_1_77 ?_
        refine kq_rl (show (lN (kw_d (v (mo + 21)) k + kw_d (v (mo + 21)) (8 + k) * 977)) + (lN (kw_d (v (mo + 21)) (7 + k))) = lN (kw_d (v (mo + 21)) k + kw_d (v (mo + 21)) (8 + k) * 977 + kw_d (v (mo + 21)) (7 + k)) from lN_add _ _) ?_
        refine lv_ladd hx hb d_Mo_times_1_78 ?_
        refine kq_rl (show (lN cy) + (lN (kw_d (v (mo + 21)) k + kw_d (v (mo + 21)) (8 + k) * 977 + kw_d (v (mo + 21)) (7 + k))) = lN (cy + (kw_d (v (mo + 21)) k + kw_d (v (mo + 21)) (8 + k) * 977 + kw_d (v (mo + 21)) (7 + k))) from lN_add _ _) ?_
        refine lv_lstore hx hb d_Mo_times_1_79 hl (by decide) rfl (fun ls hl => ?_)
        have hl : lv_has ls 9 [(4, .long (lN (cy + (kw_d (v (mo + 21)) k + kw_d (v (mo + 21)) (8 + k) * 977 + kw_d (v (mo + 21)) (7 + k))))), (6, .int (nI k)), (0, .ref mo), (1, .ref r)] := hl
        refine lv_aload_n hx hb d_Mo_times_1_81 rfl (lv_at hl 3 rfl) ?_
        refine lv_iload hx hb d_Mo_times_1_82 (lv_at hl 1 rfl) ?_
        refine lv_lload hx hb d_Mo_times_1_84 (lv_at hl 0 rfl) ?_
        refine lv_l2i (v := nI ((cy + (kw_d (v (mo + 21)) k + kw_d (v (mo + 21)) (8 + k) * 977 + kw_d (v (mo + 21)) (7 + k))) % 4294967296)) hx hb d_Mo_times_1_86 (by rw [lN_i, nI_mod]) ?_
        refine kq_iast hx hb (hT) (hrr) (hk) (by decide) (Nat.mod_lt _ (by decide)) d_Mo_times_1_87 ?_
        refine lv_lload hx hb d_Mo_times_1_88 (lv_at hl 0 rfl) ?_
        refine lv_bipush (v := nI 32) hx hb d_Mo_times_1_90 (by decide) ?_
        refine lv_lushr (v := lN ((cy + (kw_d (v (mo + 21)) k + kw_d (v (mo + 21)) (8 + k) * 977 + kw_d (v (mo + 21)) (7 + k))) / 4294967296)) hx hb d_Mo_times_1_92 (kq_ushr32 (by omega)) ?_
        refine lv_lstore hx hb d_Mo_times_1_93 hl (by decide) rfl (fun ls hl => ?_)
        have hl : lv_has ls 9 [(4, .long (lN ((cy + (kw_d (v (mo + 21)) k + kw_d (v (mo + 21)) (8 + k) * 977 + kw_d (v (mo + 21)) (7 + k))) / 4294967296))), (6, .int (nI k)), (0, .ref mo), (1, .ref r)] := hl
        refine lv_iinc (k := 1) (v := nI (k + 1)) hx hb d_Mo_times_1_95 hl rfl (kq_inc k) (by decide) rfl (fun ls hl => ?_)
        have hl : lv_has ls 9 [(6, .int (nI (k + 1))), (4, .long (lN ((cy + (kw_d (v (mo + 21)) k + kw_d (v (mo + 21)) (8 + k) * 977 + kw_d (v (mo + 21)) (7 + k))) / 4294967296))), (0, .ref mo), (1, .ref r)] := hl
        refine lv_goto hx hb d_Mo_times_1_98 rfl ?_
        have lx : (cy + (kw_d (v (mo + 21)) k + kw_d (v (mo + 21)) (8 + k) * 977 + kw_d (v (mo + 21)) (7 + k))) % 4294967296 < 4294967296 := Nat.mod_lt _ (by decide)
        have hW1 := ks_put hE hW hr (kw_s_lt hlr hk lx)
        refine ih (k + 1) _ _ ((cy + (kw_d (v (mo + 21)) k + kw_d (v (mo + 21)) (8 + k) * 977 + kw_d (v (mo + 21)) (7 + k))) / 4294967296) ls _ (by omega) hW1 (by omega) ?_ (fun q hq => by rw [kq_up_ne hq]; exact ho q hq) (t_lc (free := fun q => q = r ∨ q = mo + 21) hlc (Or.inl rfl)) (lv_sub hl [0, 1, 2, 3] rfl)
        rw [kq_up_at, hTs, kw_M_s, if_neg k0]
        exact kx_step (by rw [← kw_M_s]; exact kw_s_lo _ _ _ lx) rfl (Nat.div_add_mod _ _).symm hI
set_option maxHeartbeats 4000000 in
set_option maxRecDepth 100000 in
theorem lb_Mo_times_1 (hx : p.tables.exec = Jvm.exec) (hb : c.code = b_Mo_times_1) (hts : ∀ w ∈ w_Mo_times_1, w.before args s = true) (hown : s.vm.findClass R_Mo = some m.cls) {E : ks_E} {mo : Nat} {far : Bool} (hE : ks_ok E) (hO : ks_O E mo far) (hB : ks_B E s) {r R0 ov : Nat} {v : Nat → Nat} (hr : ks_out E r) (hov : ov < 17179869184)
    (kk : ∀ (w : Nat → Nat) (H : Heap) (cy : Nat) (ls : Array Slot) (locs : List Loc), ks_W E w H → cy < 8192 → w r % kw_M 8 + cy * kw_M 8 = kx_U R0 ov 8 → (∀ q, q ≠ r → w q = v q) → (∀ q ∈ locs, q.base = r ∨ q.base = mo + 21) → lv_has ls 9 [(4, .long (lN cy)), (0, .ref mo), (1, .ref r)] → W p l e R s m args below meth c H locs 0 0 Q (F0 m 199 ls [])) :
    ∀ (n k : Nat) (w : Nat → Nat) (H : Heap) (cy : Nat) (ls : Array Slot) (locs : List Loc), k + n = 8 → ks_W E w H → cy < 8192 → w r % kw_M k + cy * kw_M k = kx_U R0 ov k → (∀ j, k ≤ j → kw_d (w r) j = kw_d R0 j) → (∀ q, q ≠ r → w q = v q) → (∀ q ∈ locs, q.base = r ∨ q.base = mo + 21) → lv_has ls 9 [(8, .int (nI k)), (4, .long (lN cy)), (6, .long (lN ov)), (0, .ref mo), (1, .ref r)] → W p l e R s m args below meth c H locs 0 0 Q (F0 m 131 ls []) := by
  intro n
  induction n with
  | zero =>
    intro k w H cy ls locs hn hW hcy hI hj ho hlc hl
    obtain rfl : k = 8 := by omega
    refine lv_iload hx hb d_Mo_times_1_131 (lv_at hl 0 rfl) ?_
    refine lv_bipush (v := nI 8) hx hb d_Mo_times_1_133 (by decide) ?_
    refine lv_icmp_ge hx hb d_Mo_times_1_135 rfl (fun hc => ?_) (fun hc => ?_)
    · exact kk w H cy ls locs hW hcy hI ho hlc (lv_sub hl [1, 3, 4] rfl)
    · exact absurd (nI_le (Nat.le_refl 8) (by decide)) hc
  | succ n ih =>
    intro k w H cy ls locs hn hW hcy hI hj ho hlc hl
    have hk : k < 8 := by omega
    have hK := hB.1
    have hT := ks_T hE hB
    have hsr := ks_src hE hW hB (Or.inl hr)
    have hlr := ks_lt hE hW (Or.inl hr)
    have hrr := ks_row hW hr
    have hd := hj k (Nat.le_refl k)
    have l1 := kw_d_lt R0 k
    have hUs := kx_U_s R0 ov k
    refine lv_iload hx hb d_Mo_times_1_131 (lv_at hl 0 rfl) ?_
    refine lv_bipush (v := nI 8) hx hb d_Mo_times_1_133 (by decide) ?_
    refine lv_icmp_ge hx hb d_Mo_times_1_135 rfl (fun hc => ?_) (fun hc => ?_)
    · exact absurd hc (nI_ge hk (by decide))
    · refine lv_lload hx hb d_Mo_times_1_138 (lv_at hl 1 rfl) ?_
      refine lv_aload_n hx hb d_Mo_times_1_140 rfl (lv_at hl 4 rfl) ?_
      refine lv_iload hx hb d_Mo_times_1_141 (lv_at hl 0 rfl) ?_
      refine kq_iald hx hb (hsr) (hk) (by decide) ((by show Value.int (nI (kw_d (w r) k)) = _; rw [hd])) d_Mo_times_1_143 ?_
      refine lv_i2l (v := (nI (kw_d R0 k)).toInt64) hx hb d_Mo_times_1_144 (rfl) ?_
      refine lv_ldc2 hx hb hown (v := lN 4294967295) (hts _ (List.mem_cons_of_mem _ kt_w476)) d_Mo_times_1_145 ?_
      refine lv_land hx hb d_Mo_times_1_148 ?_
      refine kq_rl (show ((nI (kw_d R0 k)).toInt64) &&& (lN 4294967295) = lN (kw_d R0 k) from kx_maskN l1) ?_
      refine lv_iload hx hb d_Mo_times_1_149 (lv_at hl 0 rfl) ?_
      refine lv_if_ne hx hb d_Mo_times_1_151 rfl (fun hk0 => ?_) (fun hk0 => ?_)
      · have k0 : ¬ k = 0 := fun q => hk0 (by rw [q]; decide)
        refine lv_iload hx hb d_Mo_times_1_163 (lv_at hl 0 rfl) ?_
        refine lv_iconst (v := nI 1) hx hb d_Mo_times_1_165 (by decide) ?_
        refine lv_icmp_ne hx hb d_Mo_times_1_166 rfl (fun hk1 => ?_) (fun hk1 => ?_)
        · have k1 : ¬ k = 1 := fun q => hk1 (by rw [q])
          refine lv_lconst (v := lN 0) hx hb d_Mo_times_1_174 (by decide) ?_
          refine kq_rl (show lN 0 = lN 0 from rfl) ?_
          refine lv_ladd hx hb d_Mo_times_1_175 ?_
          refine kq_rl (show (lN (kw_d R0 k)) + (lN 0) = lN (kw_d R0 k + 0) from lN_add _ _) ?_
          refine lv_ladd hx hb d_Mo_times_1_176 ?_
          refine kq_rl (show (lN cy) + (lN (kw_d R0 k + 0)) = lN (cy + (kw_d R0 k + 0)) from lN_add _ _) ?_
          refine lv_lstore hx hb d_Mo_times_1_177 hl (by decide) rfl (fun ls hl => ?_)
          have hl : lv_has ls 9 [(4, .long (lN (cy + (kw_d R0 k + 0)))), (8, .int (nI k)), (6, .long (lN ov)), (0, .ref mo), (1, .ref r)] := hl
          refine lv_aload_n hx hb d_Mo_times_1_179 rfl (lv_at hl 4 rfl) ?_
          refine lv_iload hx hb d_Mo_times_1_180 (lv_at hl 1 rfl) ?_
          refine lv_lload hx hb d_Mo_times_1_182 (lv_at hl 0 rfl) ?_
          refine lv_l2i (v := nI ((cy + (kw_d R0 k + 0)) % 4294967296)) hx hb d_Mo_times_1_184 (by rw [lN_i, nI_mod]) ?_
          refine kq_iast hx hb (hT) (hrr) (hk) (by decide) (Nat.mod_lt _ (by decide)) d_Mo_times_1_185 ?_
          refine lv_lload hx hb d_Mo_times_1_186 (lv_at hl 0 rfl) ?_
          refine lv_bipush (v := nI 32) hx hb d_Mo_times_1_188 (by decide) ?_
          refine lv_lushr (v := lN ((cy + (kw_d R0 k + 0)) / 4294967296)) hx hb d_Mo_times_1_190 (kq_ushr32 (by omega)) ?_
          refine lv_lstore hx hb d_Mo_times_1_191 hl (by decide) rfl (fun ls hl => ?_)
          have hl : lv_has ls 9 [(4, .long (lN ((cy + (kw_d R0 k + 0)) / 4294967296))), (8, .int (nI k)), (6, .long (lN ov)), (0, .ref mo), (1, .ref r)] := hl
          refine lv_iinc (k := 1) (v := nI (k + 1)) hx hb d_Mo_times_1_193 hl rfl (kq_inc k) (by decide) rfl (fun ls hl => ?_)
          have hl : lv_has ls 9 [(8, .int (nI (k + 1))), (4, .long (lN ((cy + (kw_d R0 k + 0)) / 4294967296))), (6, .long (lN ov)), (0, .ref mo), (1, .ref r)] := hl
          refine lv_goto hx hb d_Mo_times_1_196 rfl ?_
          have lx : (cy + (kw_d R0 k + 0)) % 4294967296 < 4294967296 := Nat.mod_lt _ (by decide)
          have hW1 := ks_put hE hW hr (kw_s_lt hlr hk lx)
          refine ih (k + 1) _ _ ((cy + (kw_d R0 k + 0)) / 4294967296) ls _ (by omega) hW1 (by omega) ?_ (fun j hjk => by rw [kq_up_at, kw_d_ws_ne _ lx (by omega)]; exact hj j (by omega)) (fun q hq => by rw [kq_up_ne hq]; exact ho q hq) (t_lc (free := fun q => q = r ∨ q = mo + 21) hlc (Or.inl rfl)) (lv_sub hl [0, 1, 2, 3, 4] rfl)
          rw [kq_up_at, hUs, kw_M_s, if_neg k0, if_neg k1]
          exact kx_step (by rw [← kw_M_s]; exact kw_s_lo _ _ _ lx) rfl (Nat.div_add_mod _ _).symm hI
        · have k1 : k = 1 := Classical.byContradiction fun q => q ((kx_n1 (by omega)).mp hk1)
          refine lv_lload hx hb d_Mo_times_1_169 (lv_at hl 2 rfl) ?_
          refine lv_goto hx hb d_Mo_times_1_171 rfl ?_
          refine lv_ladd hx hb d_Mo_times_1_175 ?_
          refine kq_rl (show (lN (kw_d R0 k)) + (lN ov) = lN (kw_d R0 k + ov) from lN_add _ _) ?_
          refine lv_ladd hx hb d_Mo_times_1_176 ?_
          refine kq_rl (show (lN cy) + (lN (kw_d R0 k + ov)) = lN (cy + (kw_d R0 k + ov)) from lN_add _ _) ?_
          refine lv_lstore hx hb d_Mo_times_1_177 hl (by decide) rfl (fun ls hl => ?_)
          have hl : lv_has ls 9 [(4, .long (lN (cy + (kw_d R0 k + ov)))), (8, .int (nI k)), (6, .long (lN ov)), (0, .ref mo), (1, .ref r)] := hl
          refine lv_aload_n hx hb d_Mo_times_1_179 rfl (lv_at hl 4 rfl) ?_
          refine lv_iload hx hb d_Mo_times_1_180 (lv_at hl 1 rfl) ?_
          refine lv_lload hx hb d_Mo_times_1_182 (lv_at hl 0 rfl) ?_
          refine lv_l2i (v := nI ((cy + (kw_d R0 k + ov)) % 4294967296)) hx hb d_Mo_times_1_184 (by rw [lN_i, nI_mod]) ?_
          refine kq_iast hx hb (hT) (hrr) (hk) (by decide) (Nat.mod_lt _ (by decide)) d_Mo_times_1_185 ?_
          refine lv_lload hx hb d_Mo_times_1_186 (lv_at hl 0 rfl) ?_
          refine lv_bipush (v := nI 32) hx hb d_Mo_times_1_188 (by decide) ?_
          refine lv_lushr (v := lN ((cy + (kw_d R0 k + ov)) / 4294967296)) hx hb d_Mo_times_1_190 (kq_ushr32 (by omega)) ?_
          refine lv_lstore hx hb d_Mo_times_1_191 hl (by decide) rfl (fun ls hl => ?_)
          have hl : lv_has ls 9 [(4, .long (lN ((cy + (kw_d R0 k + ov)) / 4294967296))), (8, .int (nI k)), (6, .long (lN ov)), (0, .ref mo), (1, .ref r)] := hl
          refine lv_iinc (k := 1) (v := nI (k + 1)) hx hb d_Mo_times_1_193 hl rfl (kq_inc k) (by decide) rfl (fun ls hl => ?_)
          have hl : lv_has ls 9 [(8, .int (nI (k + 1))), (4, .long (lN ((cy + (kw_d R0 k + ov)) / 4294967296))), (6, .long (lN ov)), (0, .ref mo), (1, .ref r)] := hl
          refine lv_goto hx hb d_Mo_times_1_196 rfl ?_
          have lx : (cy + (kw_d R0 k + ov)) % 4294967296 < 4294967296 := Nat.mod_lt _ (by decide)
          have hW1 := ks_put hE hW hr (kw_s_lt hlr hk lx)
          refine ih (k + 1) _ _ ((cy + (kw_d R0 k + ov)) / 4294967296) ls _ (by omega) hW1 (by omega) ?_ (fun j hjk => by rw [kq_up_at, kw_d_ws_ne _ lx (by omega)]; exact hj j (by omega)) (fun q hq => by rw [kq_up_ne hq]; exact ho q hq) (t_lc (free := fun q => q = r ∨ q = mo + 21) hlc (Or.inl rfl)) (lv_sub hl [0, 1, 2, 3, 4] rfl)
          rw [kq_up_at, hUs, kw_M_s, if_neg k0, if_pos k1]
          exact kx_step (by rw [← kw_M_s]; exact kw_s_lo _ _ _ lx) rfl (Nat.div_add_mod _ _).symm hI
      · have k0 : k = 0 := Classical.byContradiction fun q => q (kq_nI_inj (b := 0) (by omega) (by decide) (hk0.trans (by decide)))
        refine lv_lload hx hb d_Mo_times_1_154 (lv_at hl 2 rfl) ?_
        refine lv_ldc2 hx hb hown (v := lN 977) (hts _ (List.mem_cons_of_mem _ kt_w500)) d_Mo_times_1_156 ?_
        refine lv_lmul hx hb d_Mo_times_1_159 ?_
        refine kq_rl (show (lN ov) * (lN 977) = lN (ov * 977) from lN_mul _ _) ?_
        refine lv_goto hx hb d_Mo_times_1_160 rfl ?_
        refine lv_ladd hx hb d_Mo_times_1_175 ?_
        refine kq_rl (show (lN (kw_d R0 k)) + (lN (ov * 977)) = lN (kw_d R0 k + ov * 977) from lN_add _ _) ?_
        refine lv_ladd hx hb d_Mo_times_1_176 ?_
        refine kq_rl (show (lN cy) + (lN (kw_d R0 k + ov * 977)) = lN (cy + (kw_d R0 k + ov * 977)) from lN_add _ _) ?_
        refine lv_lstore hx hb d_Mo_times_1_177 hl (by decide) rfl (fun ls hl => ?_)
        have hl : lv_has ls 9 [(4, .long (lN (cy + (kw_d R0 k + ov * 977)))), (8, .int (nI k)), (6, .long (lN ov)), (0, .ref mo), (1, .ref r)] := hl
        refine lv_aload_n hx hb d_Mo_times_1_179 rfl (lv_at hl 4 rfl) ?_
        refine lv_iload hx hb d_Mo_times_1_180 (lv_at hl 1 rfl) ?_
        refine lv_lload hx hb d_Mo_times_1_182 (lv_at hl 0 rfl) ?_
        refine lv_l2i (v := nI ((cy + (kw_d R0 k + ov * 977)) % 4294967296)) hx hb d_Mo_times_1_184 (by rw [lN_i, nI_mod]) ?_
        refine kq_iast hx hb (hT) (hrr) (hk) (by decide) (Nat.mod_lt _ (by decide)) d_Mo_times_1_185 ?_
        refine lv_lload hx hb d_Mo_times_1_186 (lv_at hl 0 rfl) ?_
        refine lv_bipush (v := nI 32) hx hb d_Mo_times_1_188 (by decide) ?_
        refine lv_lushr (v := lN ((cy + (kw_d R0 k + ov * 977)) / 4294967296)) hx hb d_Mo_times_1_190 (kq_ushr32 (by omega)) ?_
        refine lv_lstore hx hb d_Mo_times_1_191 hl (by decide) rfl (fun ls hl => ?_)
        have hl : lv_has ls 9 [(4, .long (lN ((cy + (kw_d R0 k + ov * 977)) / 4294967296))), (8, .int (nI k)), (6, .long (lN ov)), (0, .ref mo), (1, .ref r)] := hl
        refine lv_iinc (k := 1) (v := nI (k + 1)) hx hb d_Mo_times_1_193 hl rfl (kq_inc k) (by decide) rfl (fun ls hl => ?_)
        have hl : lv_has ls 9 [(8, .int (nI (k + 1))), (4, .long (lN ((cy + (kw_d R0 k + ov * 977)) / 4294967296))), (6, .long (lN ov)), (0, .ref mo), (1, .ref r)] := hl
        refine lv_goto hx hb d_Mo_times_1_196 rfl ?_
        have lx : (cy + (kw_d R0 k + ov * 977)) % 4294967296 < 4294967296 := Nat.mod_lt _ (by decide)
        have hW1 := ks_put hE hW hr (kw_s_lt hlr hk lx)
        refine ih (k + 1) _ _ ((cy + (kw_d R0 k + ov * 977)) / 4294967296) ls _ (by omega) hW1 (by omega) ?_ (fun j hjk => by rw [kq_up_at, kw_d_ws_ne _ lx (by omega)]; exact hj j (by omega)) (fun q hq => by rw [kq_up_ne hq]; exact ho q hq) (t_lc (free := fun q => q = r ∨ q = mo + 21) hlc (Or.inl rfl)) (lv_sub hl [0, 1, 2, 3, 4] rfl)
        rw [kq_up_at, hUs, kw_M_s, if_pos k0]
        exact kx_step (by rw [← kw_M_s]; exact kw_s_lo _ _ _ lx) rfl (Nat.div_add_mod _ _).symm hI
set_option maxHeartbeats 4000000 in
set_option maxRecDepth 100000 in
theorem lc_Mo_times_1 (hx : p.tables.exec = Jvm.exec) (hb : c.code = b_Mo_times_1) (hts : ∀ w ∈ w_Mo_times_1, w.before args s = true) (hown : s.vm.findClass R_Mo = some m.cls) {E : ks_E} {mo : Nat} {far : Bool} (hE : ks_ok E) (hO : ks_O E mo far) (hB : ks_B E s) {r V : Nat} {v : Nat → Nat} (hr : ks_out E r)
    (kk : ∀ (w : Nat → Nat) (H : Heap) (ls : Array Slot) (locs : List Loc), ks_W E w H → w r % kP = V % kP → (∀ q, q ≠ r → w q = v q) → (∀ q ∈ locs, q.base = r ∨ q.base = mo + 21) → lv_has ls 9 [(0, .ref mo), (1, .ref r)] → W p l e R s m args below meth c H locs 0 0 Q (F0 m 206 ls [])) :
    ∀ (n : Nat) (w : Nat → Nat) (H : Heap) (ov : Nat) (ls : Array Slot) (locs : List Loc), ks_W E w H → ov < 17179869184 → (w r + ov * kw_M 8) % kP = V % kP → kp_folds kG_P n (w r + ov * kw_M 8) < kw_M 8 → (∀ q, q ≠ r → w q = v q) → (∀ q ∈ locs, q.base = r ∨ q.base = mo + 21) → lv_has ls 9 [(6, .long (lN ov)), (0, .ref mo), (1, .ref r)] → W p l e R s m args below meth c H locs 0 0 Q (F0 m 118 ls []) := by
  intro n
  induction n with
  | zero =>
    intro w H ov ls locs hW hov hV hF ho hlc hl
    have m0 : ov = 0 := by
      have h8 := kw_M_pos 8
      rw [kp_folds_z] at hF
      rcases Nat.eq_zero_or_pos ov with q | q
      · exact q
      · have := Nat.mul_le_mul_right (kw_M 8) q
        omega
    refine lv_lload hx hb d_Mo_times_1_118 (lv_at hl 0 rfl) ?_
    refine lv_lconst (v := lN 0) hx hb d_Mo_times_1_120 (by decide) ?_
    refine W.lcmp hx hb d_Mo_times_1_121 ?_
    refine lv_if_le hx hb d_Mo_times_1_122 rfl (fun hc => ?_) (fun hc => ?_)
    · rw [m0, Nat.zero_mul, Nat.add_zero] at hV
      exact kk w H ls locs hW hV ho hlc (lv_sub hl [1, 2] rfl)
    · exact absurd ((kq_cmp_le (by omega) (by decide)).mpr (by omega)) hc
  | succ n ih =>
    intro w H ov ls locs hW hov hV hF ho hlc hl
    refine lv_lload hx hb d_Mo_times_1_118 (lv_at hl 0 rfl) ?_
    refine lv_lconst (v := lN 0) hx hb d_Mo_times_1_120 (by decide) ?_
    refine W.lcmp hx hb d_Mo_times_1_121 ?_
    refine lv_if_le hx hb d_Mo_times_1_122 rfl (fun hc => ?_) (fun hc => ?_)
    · have m0 : ov = 0 := by
        have := (kq_cmp_le (by omega) (by decide)).mp hc
        omega
      rw [m0, Nat.zero_mul, Nat.add_zero] at hV
      exact kk w H ls locs hW hV ho hlc (lv_sub hl [1, 2] rfl)
    · have hlr := ks_lt hE hW (Or.inl hr)
      rw [kp_folds_s] at hF
      refine lv_lconst (v := lN 0) hx hb d_Mo_times_1_125 (by decide) ?_
      refine lv_lstore hx hb d_Mo_times_1_126 hl (by decide) rfl (fun ls hl => ?_)
      have hl : lv_has ls 9 [(4, .long (lN 0)), (6, .long (lN ov)), (0, .ref mo), (1, .ref r)] := hl
      refine lv_iconst (v := nI 0) hx hb d_Mo_times_1_128 (by decide) ?_
      refine lv_istore hx hb d_Mo_times_1_129 hl (by decide) rfl (fun ls hl => ?_)
      have hl : lv_has ls 9 [(8, .int (nI 0)), (4, .long (lN 0)), (6, .long (lN ov)), (0, .ref mo), (1, .ref r)] := hl
      refine lb_Mo_times_1 hx hb hts hown hE hO hB (v := v) (R0 := w r) (ov := ov) hr hov (fun w2 H2 cy ls L2 hW2 hcy hI2 ho2 hL2 hl => ?_) 8 0 w H 0 ls locs rfl hW (by decide) (by rw [kx_U_0, kw_M_0, Nat.mod_one]) (fun _ _ => rfl) ho hlc (lv_sub hl [0, 1, 2, 3, 4] rfl)
      have hl2 := ks_lt hE hW2 (Or.inl hr)
      rw [Nat.mod_eq_of_lt hl2, kx_U_end hlr] at hI2
      refine lv_lload hx hb d_Mo_times_1_199 (lv_at hl 0 rfl) ?_
      refine lv_lstore hx hb d_Mo_times_1_201 hl (by decide) rfl (fun ls hl => ?_)
      have hl : lv_has ls 9 [(6, .long (lN cy)), (4, .long (lN cy)), (0, .ref mo), (1, .ref r)] := hl
      refine lv_goto hx hb d_Mo_times_1_203 rfl ?_
      exact ih w2 H2 cy ls L2 hW2 (by omega) (by rw [hI2, kp_fold_eq kp_okP]; exact hV) (by rw [hI2]; exact hF) ho2 hL2 (lv_sub hl [0, 2, 3] rfl)
end
set_option maxHeartbeats 4000000 in
set_option maxRecDepth 100000 in
theorem c_Mo_times_1 (l : Launch) (E : ks_E) (A : Nat → Nat) (mo : Nat) (far : Bool) (v : Nat → Nat) (H : Heap) (hE : ks_ok E) (hA : ks_A E A) (hO : ks_O E mo far) (hW : ks_W E v H) (r a b : Nat) (hr : ks_out E r) (ha : ks_in E a) (hb0 : ks_in E b) : Met l y_Mo_times_1 w_Mo_times_1 ({ frames := 3, cells := 0, slots := 0, locals := 64 }) (kq_P [.ref mo, .ref r, .ref a, .ref b] H (ks_C E A)) (kq_Q (fun o H1 => o = none ∧ ∃ w : Nat → Nat, ks_W E w H1 ∧ w r = v a * v b % kP ∧ ∀ q, q ≠ r → q ≠ mo + 21 → w q = v q)) 0 0 (fun q => q = r ∨ q = mo + 21) := by
  refine Met.ofW (cc := b_Mo_times_1) (maxL := 9) (ret := none) (by decide) rfl ?_
  intro p e s m args below meth c s₁ B0 hml hv
  obtain ⟨rfl, hH, hC⟩ := hv
  have hx := B0.exec
  have hb := B0.bytes
  have hret := B0.returns
  have hts := atoms_spec (ws := w_Mo_times_1) B0.pre
  have hown : s.vm.findClass R_Mo = some m.cls := findClass_of_methodNamed B0.named
  have hlocks := B0.notSynchronized
  rw [hH]
  have hl := lv_entry ([.ref mo, .ref r, .ref a, .ref b]) (n := 9) (Nat.le_of_ble_eq_true rfl)
  rw [lg_entry_eq]
  generalize (lg_sl ([.ref mo, .ref r, .ref a, .ref b]) ++ List.replicate (9 - (lg_sl ([.ref mo, .ref r, .ref a, .ref b])).length) Slot.unset).toArray = ls at hl ⊢
  have hl : lv_has ls 9 [(0, .ref mo), (1, .ref r), (2, .ref a), (3, .ref b)] := hl
  have hB := hC.1
  have hK := hB.1
  have hT := ks_T hE hB
  have hOo := ks_obj hW hO.1 hO.2.1
  have hrne : r ≠ mo + 21 := ks_in_ne hE hO (Or.inl hr)
  have hla := ks_lt hE hW ha
  have hlb := ks_lt hE hW hb0
  refine lv_aload_n hx hb d_Mo_times_1_0 rfl (lv_at hl 0 rfl) ?_
  refine lv_aload_n hx hb d_Mo_times_1_1 rfl (lv_at hl 2 rfl) ?_
  refine lv_aload_n hx hb d_Mo_times_1_2 rfl (lv_at hl 3 rfl) ?_
  refine kq_call (va_runV (As := [.ref a, .ref b]) (rest := []) ⟨hx, hb, hml, hown, hts⟩ (c_Mo_multiply_1 l E A mo far v H hE hA hO hW a b ha hb0) (cwV 2 hts (kt_inV kt_w495 kt_w492 kt_w494 kt_s12 kt_w5) rfl rfl rfl (by decide +kernel) ⟨Nat.le_of_ble_eq_true rfl, Nat.le_of_ble_eq_true rfl⟩) (kq_preV (ks_st E) (hB) (kq_recv hK hOo rfl)) rfl rfl hl.1 rfl (lv_room (Nat.le_of_ble_eq_true rfl)) d_Mo_times_1_3 ⟨Nat.zero_le _, Nat.zero_le _⟩) (fun v9 H9 L1 hq9 hL1 => ?_)
  obtain ⟨rfl, hW1⟩ := hq9
  refine W.eq (g2 := F0 m 6 ls []) rfl ?_
  have hlc1 : ∀ q ∈ ([] : List Loc) ++ L1, q.base = r ∨ q.base = mo + 21 := t_lL (free := fun q => q = r ∨ q = mo + 21) (fun q h => by cases h) (fun q z => Or.inr (hL1 q z))
  have hV16 := (ks_wide hO hW1).2
  have hVe : va_up v (mo + 21) (v a * v b) (mo + 21) = v a * v b := kq_up_at
  rw [hVe] at hV16
  refine lv_lconst (v := lN 0) hx hb d_Mo_times_1_6 (by decide) ?_
  refine lv_lstore hx hb d_Mo_times_1_7 hl (by decide) rfl (fun ls hl => ?_)
  have hl : lv_has ls 9 [(4, .long (lN 0)), (0, .ref mo), (1, .ref r), (2, .ref a), (3, .ref b)] := hl
  refine lv_iconst (v := nI 0) hx hb d_Mo_times_1_9 (by decide) ?_
  refine lv_istore hx hb d_Mo_times_1_10 hl (by decide) rfl (fun ls hl => ?_)
  have hl : lv_has ls 9 [(6, .int (nI 0)), (4, .long (lN 0)), (0, .ref mo), (1, .ref r), (2, .ref a), (3, .ref b)] := hl
  refine la_Mo_times_1 hx hb hts hown hE hO hB (v := va_up v (mo + 21) (v a * v b)) hr (fun w2 H2 cy ls L2 hW2 hcy hI2 ho2 hL2 hl => ?_) 8 0 _ _ 0 ls _ rfl hW1 (by decide) (by rw [kx_T_0, kw_M_0, Nat.mod_one]) (fun _ _ => rfl) hlc1 (lv_sub hl [0, 1, 2, 3] rfl)
  have hOo2 := ks_obj hW2 hO.1 hO.2.1
  have hl2 := ks_lt hE hW2 (Or.inl hr)
  obtain ⟨hw1, hw2⟩ := ks_wide hO hW2
  rw [ho2 (mo + 21) hrne.symm, hVe] at hw1 hw2
  rw [hVe, Nat.mod_eq_of_lt hl2] at hI2
  have hsw : kq_r s .int H2 (mo + 21) 16 (fun j => .int (nI (kw_d (v a * v b) j))) := kq_r.ofV hT hw1
  have l15 := kw_d_lt (v a * v b) 15
  have hX : w2 r + (cy + kw_d (v a * v b) 15) * kw_M 8 = kp_fold kG_P (v a * v b) := by
    rw [← kx_T_end hV16, ← hI2, Nat.add_mul, Nat.add_assoc]
  refine lv_lload hx hb d_Mo_times_1_101 (lv_at hl 0 rfl) ?_
  refine lv_aload_n hx hb d_Mo_times_1_103 rfl (lv_at hl 1 rfl) ?_
  refine kq_get hx hb hts kt_F_Mo hown hK hOo2 rfl 8 (by decide) kt_w384 rfl d_Mo_times_1_104 ?_
  refine lv_bipush (v := nI 15) hx hb d_Mo_times_1_107 (by decide) ?_
  refine kq_iald hx hb (hsw) ((by decide)) (by decide) (rfl) d_Mo_times_1_109 ?_
  refine lv_i2l (v := (nI (kw_d (v a * v b) 15)).toInt64) hx hb d_Mo_times_1_110 (rfl) ?_
  refine lv_ldc2 hx hb hown (v := lN 4294967295) (hts _ (List.mem_cons_of_mem _ kt_w476)) d_Mo_times_1_111 ?_
  refine lv_land hx hb d_Mo_times_1_114 ?_
  refine kq_rl (show ((nI (kw_d (v a * v b) 15)).toInt64) &&& (lN 4294967295) = lN (kw_d (v a * v b) 15) from kx_maskN l15) ?_
  refine lv_ladd hx hb d_Mo_times_1_115 ?_
  refine kq_rl (show (lN cy) + (lN (kw_d (v a * v b) 15)) = lN (cy + kw_d (v a * v b) 15) from lN_add _ _) ?_
  refine lv_lstore hx hb d_Mo_times_1_116 hl (by decide) rfl (fun ls hl => ?_)
  have hl : lv_has ls 9 [(6, .long (lN (cy + kw_d (v a * v b) 15))), (4, .long (lN cy)), (0, .ref mo), (1, .ref r)] := hl
  refine lc_Mo_times_1 hx hb hts hown hE hO hB (v := va_up v (mo + 21) (v a * v b)) (V := v a * v b) hr (fun w3 H3 ls L3 hW3 hV3 ho3 hL3 hl => ?_) 3 w2 H2 (cy + kw_d (v a * v b) 15) ls L2 hW2 (by omega) (by rw [hX, kp_fold_eq kp_okP]) (by rw [hX, kp_folds_s, kp_folds_s, kp_folds_s, kp_folds_z]; exact kp_four kp_okP hV16) ho2 hL2 (lv_sub hl [0, 2, 3] rfl)
  have hs3 := ks_src hE hW3 hB (Or.inl hr)
  have hl3 := ks_lt hE hW3 (Or.inl hr)
  have hr3 := ks_row hW3 hr
  have hsp := ks_src hE hW3 hB (Or.inr hA.1.1)
  have hlp := ks_lt hE hW3 (Or.inr hA.1.1)
  rw [ks_cst hW3 hA.1] at hsp hlp
  have key := kp_trim kp_okP hl3
  rw [hV3] at key
  have hkeep : ∀ q, q ≠ r → q ≠ mo + 21 → w3 q = v q := fun q h1 h2 => by rw [ho3 q h1, kq_up_ne h2]
  refine lv_aload_n hx hb d_Mo_times_1_206 rfl (lv_at hl 1 rfl) ?_
  refine kq_gets hx hb hts (ks_zat hW3 hC.2.1) hown kt_w453 d_Mo_times_1_207 ?_
  refine kq_call (va_runS (As := [.ref r, .ref (A 0)]) (rest := []) ⟨hx, hb, hml, hown, hts⟩ (c_Mo_compare l _ r (A 0) (w3 r) kP hl3 hlp) (va_cwS 2 hts (kt_inS kt_w465 kt_w463 kt_w464 kt_w5) rfl rfl rfl (by decide +kernel) ⟨Nat.le_of_ble_eq_true rfl, Nat.le_of_ble_eq_true rfl⟩) (kq_preS (kq_st_r.both kq_st_r) (⟨hs3, hsp⟩)) rfl rfl hl.1 rfl (lv_room (Nat.le_of_ble_eq_true rfl)) d_Mo_times_1_210 ⟨Nat.zero_le _, Nat.zero_le _⟩) (fun v9 H9 L4 hq9 hL4 => ?_)
  obtain ⟨rfl, e9⟩ := hq9
  rw [e9]
  clear e9
  refine W.eq (g2 := F0 m 213 ls [.int (kx_cmp (w3 r) kP)]) rfl ?_
  have hlc4 := t_lL (free := fun q => q = r ∨ q = mo + 21) hL3 (fun q z => (hL4 q z).elim)
  refine lv_if_lt hx hb d_Mo_times_1_213 rfl (fun hcc => ?_) (fun hcc => ?_)
  · rw [if_pos (kx_cmp_lt.mp hcc)] at key
    refine W.vret hx hb hret (fun t ht _ => ⟨_, rfl, rfl, ?_⟩) hlc4 d_Mo_times_1_225
    rw [ht]
    exact ⟨w3, hW3, key, hkeep⟩
  · rw [if_neg (fun q => hcc (kx_cmp_lt.mpr q))] at key
    refine lv_aload_n hx hb d_Mo_times_1_216 rfl (lv_at hl 1 rfl) ?_
    refine lv_aload_n hx hb d_Mo_times_1_217 rfl (lv_at hl 1 rfl) ?_
    refine kq_gets hx hb hts (ks_zat hW3 hC.2.1) hown kt_w453 d_Mo_times_1_218 ?_
    refine kq_call (va_runS (As := [.ref r, .ref r, .ref (A 0)]) (rest := []) ⟨hx, hb, hml, hown, hts⟩ (c_Mo_sub l _ (ks_c E) r r (A 0) (w3 r) (w3 r) kP hl3 hl3 hlp hr3) (va_cwS 3 hts (kt_inS kt_w475 kt_w473 kt_w474 kt_w5) rfl rfl rfl (by decide +kernel) ⟨Nat.le_of_ble_eq_true rfl, Nat.le_of_ble_eq_true rfl⟩) (kq_preS (kq_st_A.both (kq_st_r.both kq_st_r)) (⟨hT, hs3, hsp⟩)) rfl rfl hl.1 rfl (lv_room (Nat.le_of_ble_eq_true rfl)) d_Mo_times_1_221 ⟨Nat.zero_le _, Nat.zero_le _⟩) (fun v9 H9 L5 hq9 hL5 => ?_)
    obtain ⟨rfl, rfl⟩ := hq9
    refine W.eq (g2 := F0 m 224 ls [.int (nI (18446744073709551616 - (if w3 r < kP then 1 else 0)))]) rfl ?_
    refine lv_pop hx hb d_Mo_times_1_224 rfl ?_
    refine W.vret hx hb hret (fun t ht _ => ⟨_, rfl, rfl, ?_⟩) (t_lL (free := fun q => q = r ∨ q = mo + 21) hlc4 (fun q z => Or.inl (hL5 q z))) d_Mo_times_1_225
    rw [ht]
    exact ⟨_, ks_put hE hW3 hr (kw_sub_lt _ _), by rw [kq_up_at]; exact key, fun q h1 h2 => by rw [kq_up_ne h1]; exact hkeep q h1 h2⟩
end
