/-! Primes: Euclid, Fermat's little theorem, Pocklington's test by powers of 2 (own rows). -/
def pm_prime (p : Nat) : Prop := 2 ≤ p ∧ ∀ d, d ∣ p → d = 1 ∨ d = p
theorem pm_cop {p a : Nat} (hp : pm_prime p) (h : ¬ p ∣ a) : Nat.Coprime p a := by
  rcases hp.2 (Nat.gcd p a) (Nat.gcd_dvd_left p a) with e | e
  · exact e
  · have q := Nat.gcd_dvd_right p a
    rw [e] at q
    exact absurd q h
theorem pm_euclid {p a b : Nat} (hp : pm_prime p) (h : p ∣ a * b) : p ∣ a ∨ p ∣ b := by
  by_cases ha : p ∣ a
  · exact Or.inl ha
  · exact Or.inr ((pm_cop hp ha).dvd_of_dvd_mul_left h)
theorem pm_pow {p a : Nat} (hp : pm_prime p) : ∀ n, p ∣ a ^ n → p ∣ a
  | 0, h => by
    rw [Nat.pow_zero] at h
    have h1 := Nat.le_of_dvd (by decide) h
    have h2 := hp.1
    omega
  | n + 1, h => by
    rw [Nat.pow_succ] at h
    rcases pm_euclid hp h with q | q
    · exact pm_pow hp n q
    · exact q
def pm_ch : Nat → Nat → Nat
  | _, 0 => 1
  | 0, _ + 1 => 0
  | n + 1, k + 1 => pm_ch n k + pm_ch n (k + 1)
theorem pm_ch_n0 (n : Nat) : pm_ch n 0 = 1 := by cases n <;> simp [pm_ch]
theorem pm_ch_0s (k : Nat) : pm_ch 0 (k + 1) = 0 := by simp [pm_ch]
theorem pm_ch_ss (n k : Nat) : pm_ch (n + 1) (k + 1) = pm_ch n k + pm_ch n (k + 1) := by simp [pm_ch]
theorem pm_ch_big : ∀ n k, n < k → pm_ch n k = 0
  | 0, 0, h => by omega
  | 0, k + 1, _ => pm_ch_0s k
  | n + 1, 0, h => by omega
  | n + 1, k + 1, h => by rw [pm_ch_ss, pm_ch_big n k (by omega), pm_ch_big n (k + 1) (by omega)]
theorem pm_ch_self : ∀ n, pm_ch n n = 1
  | 0 => pm_ch_n0 0
  | n + 1 => by rw [pm_ch_ss, pm_ch_self n, pm_ch_big n (n + 1) (by omega)]
theorem pm_ch_mul : ∀ n k, (k + 1) * pm_ch (n + 1) (k + 1) = (n + 1) * pm_ch n k
  | 0, 0 => by simp [pm_ch]
  | 0, k + 1 => by rw [pm_ch_ss, pm_ch_0s, pm_ch_0s]; simp
  | n + 1, 0 => by
    have h := pm_ch_mul n 0
    rw [pm_ch_ss, pm_ch_n0]
    rw [pm_ch_n0] at h
    omega
  | n + 1, k + 1 => by
    have h1 := pm_ch_mul n k
    have h2 := pm_ch_mul n (k + 1)
    rw [pm_ch_ss] at h1 h2
    rw [pm_ch_ss, pm_ch_ss n k, pm_ch_ss n (k + 1)]
    generalize pm_ch n k = A at *
    generalize pm_ch n (k + 1) = B at *
    generalize pm_ch n (k + 1 + 1) = C at *
    have e1 : (k + 1 + 1) * (A + B + (B + C)) = (k + 1) * (A + B) + (A + B) + (k + 1 + 1) * (B + C) := by grind
    have e2 : (n + 1 + 1) * (A + B) = (n + 1) * A + (n + 1) * B + (A + B) := by grind
    omega
def pm_sm (f : Nat → Nat) : Nat → Nat
  | 0 => 0
  | n + 1 => pm_sm f n + f n
theorem pm_sm_s (f : Nat → Nat) (n : Nat) : pm_sm f (n + 1) = pm_sm f n + f n := rfl
theorem pm_sm_shift (f : Nat → Nat) : ∀ n, pm_sm f (n + 1) = f 0 + pm_sm (fun k => f (k + 1)) n
  | 0 => by simp [pm_sm]
  | n + 1 => by
    rw [pm_sm_s f (n + 1), pm_sm_shift f n, pm_sm_s (fun k => f (k + 1)) n]
    omega
theorem pm_sm_congr {f g : Nat → Nat} : ∀ n, (∀ k, k < n → f k = g k) → pm_sm f n = pm_sm g n
  | 0, _ => rfl
  | n + 1, h => by rw [pm_sm_s, pm_sm_s, pm_sm_congr n (fun k hk => h k (by omega)), h n (by omega)]
theorem pm_sm_add (f g : Nat → Nat) : ∀ n, pm_sm (fun k => f k + g k) n = pm_sm f n + pm_sm g n
  | 0 => rfl
  | n + 1 => by
    rw [pm_sm_s, pm_sm_s, pm_sm_s, pm_sm_add f g n]
    omega
theorem pm_sm_mul (c : Nat) (f : Nat → Nat) : ∀ n, pm_sm (fun k => c * f k) n = c * pm_sm f n
  | 0 => rfl
  | n + 1 => by rw [pm_sm_s, pm_sm_s, pm_sm_mul c f n, Nat.mul_add]
theorem pm_sm_dvd {p : Nat} {f : Nat → Nat} : ∀ n, (∀ k, k < n → p ∣ f k) → p ∣ pm_sm f n
  | 0, _ => Nat.dvd_zero p
  | n + 1, h => by
    rw [pm_sm_s]
    exact Nat.dvd_add (pm_sm_dvd n (fun k hk => h k (by omega))) (h n (by omega))
theorem pm_binom (a : Nat) : ∀ n, (a + 1) ^ n = pm_sm (fun k => pm_ch n k * a ^ k) (n + 1)
  | 0 => by simp [pm_sm, pm_ch]
  | n + 1 => by
    have ih := pm_binom a n
    have e1 : pm_sm (fun k => pm_ch (n + 1) k * a ^ k) (n + 1 + 1) = 1 + (a * pm_sm (fun k => pm_ch n k * a ^ k) (n + 1) + pm_sm (fun k => pm_ch n (k + 1) * a ^ (k + 1)) (n + 1)) := by
      rw [pm_sm_shift]
      show pm_ch (n + 1) 0 * a ^ 0 + pm_sm (fun k => pm_ch (n + 1) (k + 1) * a ^ (k + 1)) (n + 1) = _
      rw [pm_ch_n0, Nat.pow_zero, Nat.one_mul]
      have h1 := pm_sm_mul a (fun k => pm_ch n k * a ^ k) (n + 1)
      have h2 := pm_sm_add (fun k => a * (pm_ch n k * a ^ k)) (fun k => pm_ch n (k + 1) * a ^ (k + 1)) (n + 1)
      have h3 : pm_sm (fun k => pm_ch (n + 1) (k + 1) * a ^ (k + 1)) (n + 1) = pm_sm (fun k => a * (pm_ch n k * a ^ k) + pm_ch n (k + 1) * a ^ (k + 1)) (n + 1) := by
        apply pm_sm_congr
        intro k _
        rw [pm_ch_ss, Nat.add_mul, Nat.pow_succ]
        grind
      rw [h3, h2, h1]
    have e2 : pm_sm (fun k => pm_ch n k * a ^ k) (n + 1) = 1 + pm_sm (fun k => pm_ch n (k + 1) * a ^ (k + 1)) (n + 1) := by
      have h := pm_sm_shift (fun k => pm_ch n k * a ^ k) (n + 1)
      rw [pm_sm_s] at h
      have h : pm_sm (fun k => pm_ch n k * a ^ k) (n + 1) + pm_ch n (n + 1) * a ^ (n + 1) = pm_ch n 0 * a ^ 0 + pm_sm (fun k => pm_ch n (k + 1) * a ^ (k + 1)) (n + 1) := h
      rw [pm_ch_big n (n + 1) (by omega), pm_ch_n0, Nat.pow_zero, Nat.zero_mul, Nat.one_mul, Nat.add_zero] at h
      exact h
    rw [Nat.pow_succ, ih, e1, Nat.mul_add, Nat.mul_one, Nat.mul_comm _ a]
    omega
theorem pm_ch_dvd {p k : Nat} (hp : pm_prime p) (h0 : 0 < k) (hk : k < p) : p ∣ pm_ch p k := by
  obtain ⟨n, rfl⟩ : ∃ n, p = n + 1 := ⟨p - 1, by omega⟩
  obtain ⟨j, rfl⟩ : ∃ j, k = j + 1 := ⟨k - 1, by omega⟩
  have h := pm_ch_mul n j
  have hd : (n + 1) ∣ (j + 1) * pm_ch (n + 1) (j + 1) := by
    rw [h]
    exact Nat.dvd_mul_right _ _
  rcases pm_euclid hp hd with q | q
  · exact absurd (Nat.le_of_dvd (by omega) q) (by omega)
  · exact q
theorem pm_step {p : Nat} (hp : pm_prime p) (a : Nat) : (a + 1) ^ p % p = (a ^ p + 1) % p := by
  obtain ⟨n, rfl⟩ : ∃ n, p = n + 1 := ⟨p - 1, by have := hp.1; omega⟩
  have hd : (n + 1) ∣ pm_sm (fun k => pm_ch (n + 1) (k + 1) * a ^ (k + 1)) n := pm_sm_dvd n (fun k hk => Nat.dvd_trans (pm_ch_dvd hp (by omega) (by omega)) (Nat.dvd_mul_right _ _))
  have e : (a + 1) ^ (n + 1) = pm_ch (n + 1) 0 * a ^ 0 + pm_sm (fun k => pm_ch (n + 1) (k + 1) * a ^ (k + 1)) n + pm_ch (n + 1) (n + 1) * a ^ (n + 1) := by
    rw [pm_binom a (n + 1), pm_sm_s, pm_sm_shift]
  obtain ⟨c, hc⟩ := hd
  rw [e, hc, pm_ch_self, pm_ch_n0, Nat.pow_zero, Nat.one_mul, Nat.one_mul]
  generalize a ^ (n + 1) = X
  rw [show 1 + (n + 1) * c + X = (X + 1) + (n + 1) * c by omega, Nat.add_mul_mod_self_left]
theorem pm_fermat {p : Nat} (hp : pm_prime p) : ∀ a, a ^ p % p = a % p
  | 0 => by rw [Nat.zero_pow (by have := hp.1; omega)]
  | a + 1 => by rw [pm_step hp a, Nat.add_mod, pm_fermat hp a, ← Nat.add_mod]
theorem pm_fermat1 {p a : Nat} (hp : pm_prime p) (h : ¬ p ∣ a) : a ^ (p - 1) % p = 1 := by
  have h2 := hp.1
  have ha : 0 < a := Nat.pos_of_ne_zero (fun e => h (by rw [e]; exact Nat.dvd_zero p))
  have h1 := pm_fermat hp a
  have e : a ^ p = a * a ^ (p - 1) := by
    have q : p = (p - 1) + 1 := by omega
    calc a ^ p = a ^ ((p - 1) + 1) := by rw [← q]
      _ = a * a ^ (p - 1) := by rw [Nat.pow_succ, Nat.mul_comm]
  have hp1 : 0 < a ^ (p - 1) := Nat.pow_pos_iff.mpr (Or.inl ha)
  have hd : p ∣ a * (a ^ (p - 1) - 1) := by
    rw [Nat.mul_sub, Nat.mul_one, ← e]
    exact Nat.dvd_of_mod_eq_zero (Nat.sub_mod_eq_zero_of_mod_eq h1)
  rcases pm_euclid hp hd with q | q
  · exact absurd q h
  · obtain ⟨c, hc⟩ := q
    have e2 : a ^ (p - 1) = 1 + p * c := by omega
    rw [e2, Nat.add_mul_mod_self_left, Nat.mod_eq_of_lt (by omega)]
theorem pm_pgcd {b p : Nat} (m n : Nat) : b ^ m % p = 1 % p → b ^ n % p = 1 % p → b ^ (Nat.gcd m n) % p = 1 % p := by
  induction m, n using Nat.gcd.induction with
  | H0 n =>
    intro _ h
    rw [Nat.gcd_zero_left]
    exact h
  | H1 m n hm ih =>
    intro h1 h2
    rw [Nat.gcd_rec]
    refine ih ?_ h1
    have e : b ^ n = (b ^ m) ^ (n / m) * b ^ (n % m) := by rw [← Nat.pow_mul, ← Nat.pow_add, Nat.div_add_mod]
    rw [e, Nat.mul_mod, Nat.pow_mod, h1, ← Nat.pow_mod, Nat.one_pow, ← Nat.mul_mod, Nat.one_mul] at h2
    exact h2
theorem pm_dvp {b r : Nat} (h : 1 ≤ r) : b ∣ b ^ r := by
  have q := Nat.pow_dvd_pow b h
  rw [Nat.pow_one] at q
  exact q
theorem pm_pock {n a k r p : Nat} (hn0 : 2 ≤ n) (hr : pm_prime r) (hp : pm_prime p) (hpn : p ∣ n) (h1 : a ^ (r * k) % n = 1) (h2 : Nat.gcd (a ^ k % n + n - 1) n = 1) : r ∣ p - 1 := by
  apply Classical.byContradiction
  intro hd
  have hp2 := hp.1
  have hr2 := hr.1
  have hb : (a ^ k) ^ r % p = 1 % p := by
    rw [← Nat.pow_mul, Nat.mul_comm, ← Nat.mod_mod_of_dvd _ hpn, h1]
  have hnp : ¬ p ∣ a ^ k := by
    intro q
    have q2 := Nat.mod_eq_zero_of_dvd (Nat.dvd_trans q (pm_dvp (b := a ^ k) (r := r) (by omega)))
    rw [hb, Nat.mod_eq_of_lt (by omega)] at q2
    omega
  have hf : (a ^ k) ^ (p - 1) % p = 1 % p := by
    rw [pm_fermat1 hp hnp, Nat.mod_eq_of_lt (by omega)]
  have hg := pm_pgcd r (p - 1) hb hf
  have hc : Nat.gcd r (p - 1) = 1 := pm_cop hr hd
  rw [hc, Nat.pow_one] at hg
  have h3 : (a ^ k % n) % p = 1 % p := by rw [Nat.mod_mod_of_dvd _ hpn]; exact hg
  have h4 : p ∣ a ^ k % n + n - 1 := by
    obtain ⟨c, hc⟩ := hpn
    have h5 := Nat.div_add_mod (a ^ k % n) p
    have e1 : 1 % p = 1 := Nat.mod_eq_of_lt (by omega)
    rw [h3, e1] at h5
    generalize a ^ k % n = X at *
    refine ⟨X / p + c, ?_⟩
    rw [Nat.mul_add, ← hc]
    omega
  have h6 := Nat.dvd_gcd h4 hpn
  rw [h2] at h6
  have h7 := Nat.le_of_dvd (by decide) h6
  omega
theorem pm_exists (m : Nat) : 2 ≤ m → ∃ p, pm_prime p ∧ p ∣ m := by
  induction m using Nat.strongRecOn with
  | ind m ih =>
    intro h
    by_cases hp : pm_prime m
    · exact ⟨m, hp, Nat.dvd_refl m⟩
    · have hx : ∃ d, d ∣ m ∧ d ≠ 1 ∧ d ≠ m := by
        apply Classical.byContradiction
        intro hn
        apply hp
        refine ⟨h, fun d hd => ?_⟩
        by_cases e1 : d = 1
        · exact Or.inl e1
        · by_cases e2 : d = m
          · exact Or.inr e2
          · exact absurd ⟨d, hd, e1, e2⟩ hn
      obtain ⟨d, hd, h1, h2⟩ := hx
      have hle := Nat.le_of_dvd (by omega) hd
      have h0 : d ≠ 0 := by
        intro e
        rw [e] at hd
        have := Nat.eq_zero_of_zero_dvd hd
        omega
      obtain ⟨p, hp, hpd⟩ := ih d (by omega) (by omega)
      exact ⟨p, hp, Nat.dvd_trans hpd hd⟩
theorem pm_two {n : Nat} (hn : 2 ≤ n) (key : ∀ x y, x * y = n → 2 ≤ x → x ≤ y → False) : pm_prime n := by
  refine ⟨hn, fun d hd => ?_⟩
  obtain ⟨e, he⟩ := hd
  by_cases h1 : d = 1
  · exact Or.inl h1
  · by_cases h2 : d = n
    · exact Or.inr h2
    · have d0 : d ≠ 0 := by
        intro q
        rw [q, Nat.zero_mul] at he
        omega
      have e0 : e ≠ 0 := by
        intro q
        rw [q, Nat.mul_zero] at he
        omega
      have e1 : e ≠ 1 := by
        intro q
        rw [q, Nat.mul_one] at he
        exact h2 he.symm
      rcases Nat.le_total d e with q | q
      · exact absurd (key d e he.symm (by omega) q) id
      · exact absurd (key e d (by rw [Nat.mul_comm]; exact he.symm) (by omega) q) id
theorem pm_of {n F : Nat} (hn : 2 ≤ n) (hF : n ≤ F * F) (h : ∀ p, pm_prime p → p ∣ n → F ∣ p - 1) : pm_prime n := by
  refine pm_two hn (fun x y hxy hx hle => ?_)
  obtain ⟨p, hp, hpx⟩ := pm_exists x hx
  have hpn : p ∣ n := by
    rw [← hxy]
    exact Nat.dvd_trans hpx (Nat.dvd_mul_right x y)
  have hp2 := hp.1
  have h1 := Nat.le_of_dvd (by omega) (h p hp hpn)
  have h2 := Nat.le_of_dvd (by omega) hpx
  have h3 : (F + 1) * (F + 1) ≤ p * p := Nat.mul_le_mul (by omega) (by omega)
  have h4 : p * p ≤ x * y := Nat.mul_le_mul h2 (Nat.le_trans h2 hle)
  have h5 : (F + 1) * (F + 1) = F * F + F + F + 1 := by grind
  omega
theorem pm_small {n : Nat} (b : Nat) (hn : 2 ≤ n) (hb : n < b * b) (h : (List.range b).all (fun d => decide (d < 2) || !(n % d == 0)) = true) : pm_prime n := by
  refine pm_two hn (fun x y hxy hx hle => ?_)
  have hx1 : x < b := by
    apply Classical.byContradiction
    intro q
    have h1 : b * b ≤ x * x := Nat.mul_le_mul (by omega) (by omega)
    have h2 : x * x ≤ x * y := Nat.mul_le_mul (Nat.le_refl x) hle
    omega
  have h3 := List.all_eq_true.mp h x (List.mem_range.mpr hx1)
  have h4 : n % x = 0 := by
    rw [← hxy]
    exact Nat.mul_mod_right x y
  rw [h4] at h3
  simp at h3
  omega
/-- a to the e modulo n, by squares -/
def pm_pw (n a : Nat) : Nat → Nat → Nat
  | 0, _ => 1 % n
  | f + 1, e => cond (Nat.beq (e % 2) 0) (pm_pw n a f (e / 2) * pm_pw n a f (e / 2) % n) (pm_pw n a f (e / 2) * pm_pw n a f (e / 2) % n * a % n)
theorem pm_pw_s (n a f e : Nat) : pm_pw n a (f + 1) e = cond (Nat.beq (e % 2) 0) (pm_pw n a f (e / 2) * pm_pw n a f (e / 2) % n) (pm_pw n a f (e / 2) * pm_pw n a f (e / 2) % n * a % n) := rfl
theorem pm_pw_eq (n a : Nat) : ∀ f e, e < 2 ^ f → pm_pw n a f e = a ^ e % n
  | 0, e, h => by
    have e0 : e = 0 := by rw [Nat.pow_zero] at h; omega
    rw [e0, Nat.pow_zero]
    rfl
  | f + 1, e, h => by
    rw [Nat.pow_succ] at h
    have ih := pm_pw_eq n a f (e / 2) (by omega)
    rw [pm_pw_s, ih]
    rcases Nat.mod_two_eq_zero_or_one e with h0 | h0
    · rw [h0]
      show a ^ (e / 2) % n * (a ^ (e / 2) % n) % n = a ^ e % n
      rw [← Nat.mul_mod, ← Nat.pow_add, show e / 2 + e / 2 = e by omega]
    · rw [h0]
      show a ^ (e / 2) % n * (a ^ (e / 2) % n) % n * a % n = a ^ e % n
      rw [← Nat.mul_mod, ← Nat.pow_add, Nat.mod_mul_mod, ← Nat.pow_succ, show (e / 2 + e / 2).succ = e by omega]
def pm_chk (n k r f : Nat) : Bool := Nat.ble 2 n && (Nat.ble (r * k + 1) (2 ^ f) && (Nat.beq (pm_pw n 2 f (r * k)) 1 && Nat.beq (Nat.gcd (pm_pw n 2 f k + n - 1) n) 1))
theorem pm_pockw {n k r p : Nat} (f : Nat) (hr : pm_prime r) (hp : pm_prime p) (hpn : p ∣ n) (h : pm_chk n k r f = true) : r ∣ p - 1 := by
  unfold pm_chk at h
  rw [Bool.and_eq_true, Bool.and_eq_true, Bool.and_eq_true] at h
  obtain ⟨h0, h1, h2, h3⟩ := h
  have h0 := Nat.le_of_ble_eq_true h0
  have h1 := Nat.le_of_ble_eq_true h1
  have h2 := Nat.eq_of_beq_eq_true h2
  have h3 := Nat.eq_of_beq_eq_true h3
  have hk : k ≤ r * k := Nat.le_mul_of_pos_left k (by have := hr.1; omega)
  rw [pm_pw_eq n 2 f _ (by omega)] at h2
  rw [pm_pw_eq n 2 f _ (by omega)] at h3
  exact pm_pock h0 hr hp hpn h2 h3
theorem pm_p0 : pm_prime 7 := pm_small 3 (by decide) (by decide +kernel) (by decide +kernel)
theorem pm_p1 : pm_prime 29 := pm_small 6 (by decide) (by decide +kernel) (by decide +kernel)
theorem pm_p2 : pm_prime 53 := pm_small 8 (by decide) (by decide +kernel) (by decide +kernel)
theorem pm_p3 : pm_prime 1871 := pm_small 44 (by decide) (by decide +kernel) (by decide +kernel)
theorem pm_p4 : pm_prime 9349 := pm_small 97 (by decide) (by decide +kernel) (by decide +kernel)
theorem pm_p5 : pm_prime 20113 := pm_small 142 (by decide) (by decide +kernel) (by decide +kernel)
theorem pm_p6 : pm_prime 28181 := pm_small 168 (by decide) (by decide +kernel) (by decide +kernel)
theorem pm_p7 : pm_prime 96557 := pm_small 311 (by decide) (by decide +kernel) (by decide +kernel)
theorem pm_p8 : pm_prime 120233 := pm_small 347 (by decide) (by decide +kernel) (by decide +kernel)
theorem pm_p9_5 {p : Nat} (hp : pm_prime p) (hd : p ∣ 1206781) : 20113 ∣ p - 1 := pm_pockw (n := 1206781) (k := 60) (r := 20113) 21 pm_p5 hp hd (by decide +kernel)
theorem pm_p9 : pm_prime 1206781 := pm_of (F := 20113) (by decide +kernel) (by decide +kernel) (fun p hp hd => (pm_p9_5 hp hd))
theorem pm_p10_3 {p : Nat} (hp : pm_prime p) (hd : p ∣ 1627771) : 1871 ∣ p - 1 := pm_pockw (n := 1627771) (k := 870) (r := 1871) 21 pm_p3 hp hd (by decide +kernel)
theorem pm_p10 : pm_prime 1627771 := pm_of (F := 1871) (by decide +kernel) (by decide +kernel) (fun p hp hd => (pm_p10_3 hp hd))
theorem pm_p11_9 {p : Nat} (hp : pm_prime p) (hd : p ∣ 7240687) : 1206781 ∣ p - 1 := pm_pockw (n := 7240687) (k := 6) (r := 1206781) 23 pm_p9 hp hd (by decide +kernel)
theorem pm_p11 : pm_prime 7240687 := pm_of (F := 1206781) (by decide +kernel) (by decide +kernel) (fun p hp hd => (pm_p11_9 hp hd))
theorem pm_p12_4 {p : Nat} (hp : pm_prime p) (hd : p ∣ 44706919) : 9349 ∣ p - 1 := pm_pockw (n := 44706919) (k := 4782) (r := 9349) 26 pm_p4 hp hd (by decide +kernel)
theorem pm_p12 : pm_prime 44706919 := pm_of (F := 9349) (by decide +kernel) (by decide +kernel) (fun p hp hd => (pm_p12_4 hp hd))
theorem pm_p13_2 {p : Nat} (hp : pm_prime p) (hd : p ∣ 107590001) : 53 ∣ p - 1 := pm_pockw (n := 107590001) (k := 2030000) (r := 53) 27 pm_p2 hp hd (by decide +kernel)
theorem pm_p13_1 {p : Nat} (hp : pm_prime p) (hd : p ∣ 107590001) : 29 ∣ p - 1 := pm_pockw (n := 107590001) (k := 3710000) (r := 29) 27 pm_p1 hp hd (by decide +kernel)
theorem pm_p13_0 {p : Nat} (hp : pm_prime p) (hd : p ∣ 107590001) : 7 ∣ p - 1 := pm_pockw (n := 107590001) (k := 15370000) (r := 7) 27 pm_p0 hp hd (by decide +kernel)
theorem pm_p13 : pm_prime 107590001 := by
  refine pm_of (F := 10759) (by decide +kernel) (by decide +kernel) (fun p hp hd => ?_)
  have h0 : 53 ∣ p - 1 := pm_p13_2 hp hd
  have h1 : 1537 ∣ p - 1 := by
    rw [show 1537 = 53 * 29 by decide +kernel]
    exact Nat.Coprime.mul_dvd_of_dvd_of_dvd (show Nat.gcd 53 29 = 1 by decide +kernel) h0 (pm_p13_1 hp hd)
  have h2 : 10759 ∣ p - 1 := by
    rw [show 10759 = 1537 * 7 by decide +kernel]
    exact Nat.Coprime.mul_dvd_of_dvd_of_dvd (show Nat.gcd 1537 7 = 1 by decide +kernel) h1 (pm_p13_0 hp hd)
  exact h2
theorem pm_p14_6 {p : Nat} (hp : pm_prime p) (hd : p ∣ 545358713) : 28181 ∣ p - 1 := pm_pockw (n := 545358713) (k := 19352) (r := 28181) 30 pm_p6 hp hd (by decide +kernel)
theorem pm_p14 : pm_prime 545358713 := pm_of (F := 28181) (by decide +kernel) (by decide +kernel) (fun p hp hd => (pm_p14_6 hp hd))
theorem pm_p15_10 {p : Nat} (hp : pm_prime p) (hd : p ∣ 297159362677) : 1627771 ∣ p - 1 := pm_pockw (n := 297159362677) (k := 182556) (r := 1627771) 39 pm_p10 hp hd (by decide +kernel)
theorem pm_p15 : pm_prime 297159362677 := pm_of (F := 1627771) (by decide +kernel) (by decide +kernel) (fun p hp hd => (pm_p15_10 hp hd))
theorem pm_p16_12 {p : Nat} (hp : pm_prime p) (hd : p ∣ 174723607534414371449) : 44706919 ∣ p - 1 := pm_pockw (n := 174723607534414371449) (k := 3908200597192) (r := 44706919) 68 pm_p12 hp hd (by decide +kernel)
theorem pm_p16_8 {p : Nat} (hp : pm_prime p) (hd : p ∣ 174723607534414371449) : 120233 ∣ p - 1 := pm_pockw (n := 174723607534414371449) (k := 1453208416444856) (r := 120233) 68 pm_p8 hp hd (by decide +kernel)
theorem pm_p16 : pm_prime 174723607534414371449 := by
  refine pm_of (F := 5375246992127) (by decide +kernel) (by decide +kernel) (fun p hp hd => ?_)
  have h0 : 44706919 ∣ p - 1 := pm_p16_12 hp hd
  have h1 : 5375246992127 ∣ p - 1 := by
    rw [show 5375246992127 = 44706919 * 120233 by decide +kernel]
    exact Nat.Coprime.mul_dvd_of_dvd_of_dvd (show Nat.gcd 44706919 120233 = 1 by decide +kernel) h0 (pm_p16_8 hp hd)
  exact h1
theorem pm_p17_15 {p : Nat} (hp : pm_prime p) (hd : p ∣ 29047611873442575647497758179) : 297159362677 ∣ p - 1 := pm_pockw (n := 29047611873442575647497758179) (k := 97750956294169114) (r := 297159362677) 95 pm_p15 hp hd (by decide +kernel)
theorem pm_p17_14 {p : Nat} (hp : pm_prime p) (hd : p ∣ 29047611873442575647497758179) : 545358713 ∣ p - 1 := pm_pockw (n := 29047611873442575647497758179) (k := 53263313083699784306) (r := 545358713) 95 pm_p14 hp hd (by decide +kernel)
theorem pm_p17 : pm_prime 29047611873442575647497758179 := by
  refine pm_of (F := 162058447585428954701) (by decide +kernel) (by decide +kernel) (fun p hp hd => ?_)
  have h0 : 297159362677 ∣ p - 1 := pm_p17_15 hp hd
  have h1 : 162058447585428954701 ∣ p - 1 := by
    rw [show 162058447585428954701 = 297159362677 * 545358713 by decide +kernel]
    exact Nat.Coprime.mul_dvd_of_dvd_of_dvd (show Nat.gcd 297159362677 545358713 = 1 by decide +kernel) h0 (pm_p17_14 hp hd)
  exact h1
theorem pm_p18_17 {p : Nat} (hp : pm_prime p) (hd : p ∣ 341948486974166000522343609283189) : 29047611873442575647497758179 ∣ p - 1 := pm_pockw (n := 341948486974166000522343609283189) (k := 11772) (r := 29047611873442575647497758179) 109 pm_p17 hp hd (by decide +kernel)
theorem pm_p18 : pm_prime 341948486974166000522343609283189 := pm_of (F := 29047611873442575647497758179) (by decide +kernel) (by decide +kernel) (fun p hp hd => (pm_p18_17 hp hd))
theorem pm_p19_13 {p : Nat} (hp : pm_prime p) (hd : p ∣ 255515944373312847190720520512484175977) : 107590001 ∣ p - 1 := pm_pockw (n := 255515944373312847190720520512484175977) (k := 2374904191824599455024826335976) (r := 107590001) 128 pm_p13 hp hd (by decide +kernel)
theorem pm_p19_11 {p : Nat} (hp : pm_prime p) (hd : p ∣ 255515944373312847190720520512484175977) : 7240687 ∣ p - 1 := pm_pockw (n := 255515944373312847190720520512484175977) (k := 35288908963101546467996824129048) (r := 7240687) 128 pm_p11 hp hd (by decide +kernel)
theorem pm_p19_7 {p : Nat} (hp : pm_prime p) (hd : p ∣ 255515944373312847190720520512484175977) : 96557 ∣ p - 1 := pm_pockw (n := 255515944373312847190720520512484175977) (k := 2646270538369179315748423423599368) (r := 96557) 128 pm_p7 hp hd (by decide +kernel)
theorem pm_p19 : pm_prime 255515944373312847190720520512484175977 := by
  refine pm_of (F := 75220367286300824659) (by decide +kernel) (by decide +kernel) (fun p hp hd => ?_)
  have h0 : 107590001 ∣ p - 1 := pm_p19_13 hp hd
  have h1 : 779025521570687 ∣ p - 1 := by
    rw [show 779025521570687 = 107590001 * 7240687 by decide +kernel]
    exact Nat.Coprime.mul_dvd_of_dvd_of_dvd (show Nat.gcd 107590001 7240687 = 1 by decide +kernel) h0 (pm_p19_11 hp hd)
  have h2 : 75220367286300824659 ∣ p - 1 := by
    rw [show 75220367286300824659 = 779025521570687 * 96557 by decide +kernel]
    exact Nat.Coprime.mul_dvd_of_dvd_of_dvd (show Nat.gcd 779025521570687 96557 = 1 by decide +kernel) h1 (pm_p19_7 hp hd)
  exact h2
theorem pm_p20_19 {p : Nat} (hp : pm_prime p) (hd : p ∣ 205115282021455665897114700593932402728804164701536103180137503955397371) : 255515944373312847190720520512484175977 ∣ p - 1 := pm_pockw (n := 205115282021455665897114700593932402728804164701536103180137503955397371) (k := 802749442992798076634733441528810) (r := 255515944373312847190720520512484175977) 237 pm_p19 hp hd (by decide +kernel)
theorem pm_p20 : pm_prime 205115282021455665897114700593932402728804164701536103180137503955397371 := pm_of (F := 255515944373312847190720520512484175977) (by decide +kernel) (by decide +kernel) (fun p hp hd => (pm_p20_19 hp hd))
theorem pm_p21_18 {p : Nat} (hp : pm_prime p) (hd : p ∣ 115792089237316195423570985008687907852837564279074904382605163141518161494337) : 341948486974166000522343609283189 ∣ p - 1 := pm_pockw (n := 115792089237316195423570985008687907852837564279074904382605163141518161494337) (k := 338624364920977752681389262317185522840540224) (r := 341948486974166000522343609283189) 256 pm_p18 hp hd (by decide +kernel)
theorem pm_p21_16 {p : Nat} (hp : pm_prime p) (hd : p ∣ 115792089237316195423570985008687907852837564279074904382605163141518161494337) : 174723607534414371449 ∣ p - 1 := pm_pockw (n := 115792089237316195423570985008687907852837564279074904382605163141518161494337) (k := 662715765037699607481235088557493206623080876315205958464) (r := 174723607534414371449) 256 pm_p16 hp hd (by decide +kernel)
theorem pm_p21 : pm_prime 115792089237316195423570985008687907852837564279074904382605163141518161494337 := by
  refine pm_of (F := 59746473235060985162263246577491932178200490877270861) (by decide +kernel) (by decide +kernel) (fun p hp hd => ?_)
  have h0 : 341948486974166000522343609283189 ∣ p - 1 := pm_p21_18 hp hd
  have h1 : 59746473235060985162263246577491932178200490877270861 ∣ p - 1 := by
    rw [show 59746473235060985162263246577491932178200490877270861 = 341948486974166000522343609283189 * 174723607534414371449 by decide +kernel]
    exact Nat.Coprime.mul_dvd_of_dvd_of_dvd (show Nat.gcd 341948486974166000522343609283189 174723607534414371449 = 1 by decide +kernel) h0 (pm_p21_16 hp hd)
  exact h1
theorem pm_p22_20 {p : Nat} (hp : pm_prime p) (hd : p ∣ 115792089237316195423570985008687907853269984665640564039457584007908834671663) : 205115282021455665897114700593932402728804164701536103180137503955397371 ∣ p - 1 := pm_pockw (n := 115792089237316195423570985008687907853269984665640564039457584007908834671663) (k := 564522) (r := 205115282021455665897114700593932402728804164701536103180137503955397371) 256 pm_p20 hp hd (by decide +kernel)
theorem pm_p22 : pm_prime 115792089237316195423570985008687907853269984665640564039457584007908834671663 := pm_of (F := 205115282021455665897114700593932402728804164701536103180137503955397371) (by decide +kernel) (by decide +kernel) (fun p hp hd => (pm_p22_20 hp hd))
/-- FIELD -/
def kP : Nat := 115792089237316195423570985008687907853269984665640564039457584007908834671663
/-- ORDER -/
def kN : Nat := 115792089237316195423570985008687907852837564279074904382605163141518161494337
theorem kP_val : kP = 115792089237316195423570985008687907853269984665640564039457584007908834671663 := rfl
theorem kN_val : kN = 115792089237316195423570985008687907852837564279074904382605163141518161494337 := rfl
theorem kP_prime : pm_prime kP := pm_p22
theorem kN_prime : pm_prime kN := pm_p21
