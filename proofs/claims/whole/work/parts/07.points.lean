/-! Plain sums of points modulo FIELD, and what stands for them in the class (own rows). -/
def kc_line (t1 t2 x y bx : Nat) : Nat × Nat :=
  (kp_dif kP (kp_dif kP (t1 * kf_inv kP t2 % kP * (t1 * kf_inv kP t2 % kP) % kP) x) bx,
   kp_dif kP (kp_dif kP x (kp_dif kP (kp_dif kP (t1 * kf_inv kP t2 % kP * (t1 * kf_inv kP t2 % kP) % kP) x) bx) * (t1 * kf_inv kP t2 % kP) % kP) y)
def kc_twice : Option (Nat × Nat) → Option (Nat × Nat)
  | none => none
  | some q => if q.2 = 0 then none else some (kc_line ((q.1 * q.1 % kP + (q.1 * q.1 % kP + q.1 * q.1 % kP) % kP) % kP) ((q.2 + q.2) % kP) q.1 q.2 q.1)
def kc_join (o : Option (Nat × Nat)) (bx by1 : Nat) : Option (Nat × Nat) := match o with
  | none => some (bx, by1)
  | some q => if q.1 = bx then (if q.2 = by1 then kc_twice (some q) else none) else some (kc_line (kp_dif kP by1 q.2) (kp_dif kP bx q.1) q.1 q.2 bx)
theorem kc_twice_some (q : Nat × Nat) : kc_twice (some q) = if q.2 = 0 then none else some (kc_line ((q.1 * q.1 % kP + (q.1 * q.1 % kP + q.1 * q.1 % kP) % kP) % kP) ((q.2 + q.2) % kP) q.1 q.2 q.1) := rfl
theorem kc_join_some (q : Nat × Nat) (bx by1 : Nat) : kc_join (some q) bx by1 = if q.1 = bx then (if q.2 = by1 then kc_twice (some q) else none) else some (kc_line (kp_dif kP by1 q.2) (kp_dif kP bx q.1) q.1 q.2 bx) := rfl
/-- below FIELD -/
def kc_low (o : Option (Nat × Nat)) : Prop := ∀ q, o = some q → q.1 < kP ∧ q.2 < kP
/-- X, Y, Z stand for the point o -/
def kc_rep (o : Option (Nat × Nat)) (X Y Z : Nat) : Prop := Z < kP ∧ match o with
  | none => Z = 0
  | some q => q.1 < kP ∧ q.2 < kP ∧ Z ≠ 0 ∧ kj_f X = kj_f q.1 * (kj_f Z * kj_f Z) ∧ kj_f Y = kj_f q.2 * (kj_f Z * kj_f Z * kj_f Z)
theorem kP_pos : 0 < kP := by decide +kernel
theorem kc_line_lt (t1 t2 x y bx : Nat) : (kc_line t1 t2 x y bx).1 < kP ∧ (kc_line t1 t2 x y bx).2 < kP := ⟨kp_dif_lt kP_pos, kp_dif_lt kP_pos⟩
theorem kc_twice_low {o : Option (Nat × Nat)} : kc_low (kc_twice o) := by
  intro q hq
  cases o with
  | none => exact absurd hq (by simp [kc_twice])
  | some r =>
    rw [kc_twice_some] at hq
    by_cases h : r.2 = 0
    · rw [if_pos h] at hq
      cases hq
    · rw [if_neg h] at hq
      cases hq
      exact kc_line_lt _ _ _ _ _
theorem kc_join_low {o : Option (Nat × Nat)} {bx by1 : Nat} (hx : bx < kP) (hy : by1 < kP) : kc_low (kc_join o bx by1) := by
  intro q hq
  cases o with
  | none =>
    cases hq
    exact ⟨hx, hy⟩
  | some r =>
    rw [kc_join_some] at hq
    by_cases h : r.1 = bx
    · rw [if_pos h] at hq
      by_cases h2 : r.2 = by1
      · rw [if_pos h2] at hq
        exact kc_twice_low q hq
      · rw [if_neg h2] at hq
        cases hq
    · rw [if_neg h] at hq
      cases hq
      exact kc_line_lt _ _ _ _ _
theorem kc_f0 {a : Nat} (h : a < kP) : kj_f a = kj_f 0 ↔ a = 0 := by
  rw [kj_f_eq, Nat.zero_mod, Nat.mod_eq_of_lt h]
theorem kc_fe {a b : Nat} (ha : a < kP) (hb : b < kP) : kj_f a = kj_f b ↔ a = b := by
  rw [kj_f_eq, Nat.mod_eq_of_lt ha, Nat.mod_eq_of_lt hb]
theorem kc_inv {a : Nat} (ha : a < kP) (h0 : a ≠ 0) : kj_f a * kj_f (kf_inv kP a) = kj_f 1 := by
  rw [← kj_f_mul, kj_f_eq, kf_inv_mul kP_prime (by rw [Nat.mod_eq_of_lt ha]; exact h0)]
  rw [Nat.mod_eq_of_lt (by decide +kernel)]
theorem kc_slope {t1 t2 : Nat} (h2 : t2 < kP) (h0 : t2 ≠ 0) : kj_f t2 * kj_f (t1 * kf_inv kP t2 % kP) = kj_f t1 := by
  have h := kc_inv h2 h0
  rw [← kj_f_mul, kj_f_eq] at h
  rw [kj_f_mod, ← kj_f_mul, kj_f_eq]
  have e : t2 * (t1 * kf_inv kP t2) = t1 * (t2 * kf_inv kP t2) := by grind
  rw [e, Nat.mul_mod, h, ← Nat.mul_mod, Nat.mul_one]
theorem kc_odd (y : Nat) (hy : y < kP) (h : (y + y) % kP = 0) : y = 0 := by
  have h2 := kP_prime
  rw [← Nat.two_mul] at h
  rcases kf_zero h2 h with q | q
  · exact absurd q (by decide +kernel)
  · rw [Nat.mod_eq_of_lt hy] at q
    exact q
/-- the class's doubling, row by row, keeps the standing -/
theorem kc_rep_twice {o : Option (Nat × Nat)} {X Y Z z1 z2 sq sh s2 s4 run r2 rise x1 x2 x3 s5 y1 q2 q4 q8 y2 : Nat} (h : kc_rep o X Y Z) (hZ : Z ≠ 0)
    (e1 : z1 = Y * Z % kP) (e2 : z2 = (z1 + z1) % kP) (e3 : sq = Y * Y % kP) (e4 : sh = X * sq % kP) (e5 : s2 = (sh + sh) % kP) (e6 : s4 = (s2 + s2) % kP) (e7 : run = X * X % kP) (e8 : r2 = (run + run) % kP) (e9 : rise = (r2 + run) % kP)
    (e10 : x1 = rise * rise % kP) (e11 : x2 = kp_dif kP x1 s4) (e12 : x3 = kp_dif kP x2 s4) (e13 : s5 = kp_dif kP s4 x3) (e14 : y1 = rise * s5 % kP) (e15 : q2 = (sq + sq) % kP) (e16 : q4 = q2 * q2 % kP) (e17 : q8 = (q4 + q4) % kP) (e18 : y2 = kp_dif kP y1 q8) :
    kc_rep (kc_twice o) x3 y2 z2 := by
  obtain ⟨hZl, h⟩ := h
  have hz2 : z2 < kP := by rw [e2]; exact Nat.mod_lt _ kP_pos
  cases o with
  | none => exact absurd h hZ
  | some q =>
    obtain ⟨hq1, hq2, -, hX, hY⟩ := h
    have f1 : kj_f z2 = kj_f Y * kj_f Z + kj_f Y * kj_f Z := by rw [e2, e1, kj_f_mod, kj_f_add, kj_f_mod, kj_f_mul]
    by_cases hy : q.2 = 0
    · have e : kc_twice (some q) = none := by
        rw [kc_twice_some, if_pos hy]
      rw [e]
      refine ⟨hz2, ?_⟩
      show z2 = 0
      have hY0 : Y % kP = 0 := by
        rw [hy] at hY
        rw [← kj_f_mul, ← kj_f_mul, ← kj_f_mul, Nat.zero_mul, kj_f_eq, Nat.zero_mod] at hY
        exact hY
      have hz1 : z1 = 0 := by rw [e1, Nat.mul_mod, hY0, Nat.zero_mul, Nat.zero_mod]
      rw [e2, hz1]
      rfl
    · have hne : z2 ≠ 0 := by
        intro hz
        rw [e2] at hz
        have h1 := kc_odd z1 (by rw [e1]; exact Nat.mod_lt _ kP_pos) hz
        rw [e1] at h1
        rcases kf_zero kP_prime h1 with h2 | h2
        · rw [← Nat.zero_mod kP, ← kj_f_eq, hY, ← kj_f_mul, ← kj_f_mul, ← kj_f_mul, kj_f_eq, Nat.zero_mod] at h2
          rcases kf_zero kP_prime h2 with h3 | h3
          · rw [Nat.mod_eq_of_lt hq2] at h3
            exact hy h3
          · rcases kf_zero kP_prime h3 with h4 | h4
            · rcases kf_zero kP_prime h4 with h5 | h5
              · rw [Nat.mod_eq_of_lt hZl] at h5
                exact hZ h5
              · rw [Nat.mod_eq_of_lt hZl] at h5
                exact hZ h5
            · rw [Nat.mod_eq_of_lt hZl] at h4
              exact hZ h4
        · rw [Nat.mod_eq_of_lt hZl] at h2
          exact hZ h2
      have ht2 : (q.2 + q.2) % kP ≠ 0 := fun h0 => hy (kc_odd q.2 hq2 h0)
      have hsl := kc_slope (t1 := (q.1 * q.1 % kP + (q.1 * q.1 % kP + q.1 * q.1 % kP) % kP) % kP) (Nat.mod_lt (q.2 + q.2) kP_pos) ht2
      have e : kc_twice (some q) = some (kc_line ((q.1 * q.1 % kP + (q.1 * q.1 % kP + q.1 * q.1 % kP) % kP) % kP) ((q.2 + q.2) % kP) q.1 q.2 q.1) := by
        rw [kc_twice_some, if_neg hy]
      rw [e]
      generalize hS : ((q.1 * q.1 % kP + (q.1 * q.1 % kP + q.1 * q.1 % kP) % kP) % kP) * kf_inv kP ((q.2 + q.2) % kP) % kP = S at hsl
      have hlt := kc_line_lt ((q.1 * q.1 % kP + (q.1 * q.1 % kP + q.1 * q.1 % kP) % kP) % kP) ((q.2 + q.2) % kP) q.1 q.2 q.1
      have hl1 : (kc_line ((q.1 * q.1 % kP + (q.1 * q.1 % kP + q.1 * q.1 % kP) % kP) % kP) ((q.2 + q.2) % kP) q.1 q.2 q.1).1 = kp_dif kP (kp_dif kP (S * S % kP) q.1) q.1 := by rw [← hS]; rfl
      have hl2 : (kc_line ((q.1 * q.1 % kP + (q.1 * q.1 % kP + q.1 * q.1 % kP) % kP) % kP) ((q.2 + q.2) % kP) q.1 q.2 q.1).2 = kp_dif kP (kp_dif kP q.1 (kp_dif kP (kp_dif kP (S * S % kP) q.1) q.1) * S % kP) q.2 := by rw [← hS]; rfl
      refine ⟨hz2, hlt.1, hlt.2, hne, ?_⟩
      rw [hl1, hl2]
      simp only [kj_f_mod, kj_f_add, kj_f_mul, kj_f_dif] at hsl f1 ⊢
      have g3 : kj_f sq = kj_f Y * kj_f Y := by rw [e3, kj_f_mod, kj_f_mul]
      have g6 : kj_f s4 = kj_f X * kj_f sq + kj_f X * kj_f sq + (kj_f X * kj_f sq + kj_f X * kj_f sq) := by rw [e6, e5, e4, kj_f_mod, kj_f_add, kj_f_mod, kj_f_add, kj_f_mod, kj_f_mul]
      have g9 : kj_f rise = kj_f X * kj_f X + kj_f X * kj_f X + kj_f X * kj_f X := by rw [e9, e8, e7, kj_f_mod, kj_f_add, kj_f_mod, kj_f_add, kj_f_mod, kj_f_mul]
      have g12 : kj_f x3 = kj_f rise * kj_f rise - kj_f s4 - kj_f s4 := by rw [e12, e11, e10, kj_f_dif, kj_f_dif, kj_f_mod, kj_f_mul]
      have g18 : kj_f y2 = kj_f rise * (kj_f s4 - kj_f x3) - ((kj_f sq + kj_f sq) * (kj_f sq + kj_f sq) + (kj_f sq + kj_f sq) * (kj_f sq + kj_f sq)) := by
        rw [e18, e17, e16, e15, e14, e13, kj_f_dif, kj_f_mod, kj_f_mul, kj_f_dif, kj_f_mod, kj_f_add, kj_f_mod, kj_f_mul, kj_f_mod, kj_f_add]
      haveI : NeZero kP := ⟨by decide +kernel⟩
      exact kj_dbl (kj_f X) (kj_f Y) (kj_f Z) (kj_f q.1) (kj_f q.2) (kj_f S) _ _ (kj_f z2) (kj_f sq) (kj_f s4) (kj_f rise) (kj_f x3) (kj_f y2) hX hY hsl rfl (by grind) f1 g3 g6 g9 g12 g18
theorem kc_unit {Z a : Nat} (hZl : Z < kP) (hZ : Z ≠ 0) (ha : a < kP) (n : Nat) (h : kj_f a * kj_f (Z ^ n) = kj_f 0) : a = 0 := by
  rw [← kj_f_mul, kj_f_eq, Nat.zero_mod] at h
  rcases kf_zero kP_prime h with h1 | h1
  · rw [Nat.mod_eq_of_lt ha] at h1
    exact h1
  · have h2 := pm_pow kP_prime n (Nat.dvd_of_mod_eq_zero h1)
    have h3 := Nat.mod_eq_zero_of_dvd h2
    rw [Nat.mod_eq_of_lt hZl] at h3
    exact absurd h3 hZ
/-- the line from the running sum to the point -/
theorem kc_measure {q : Nat × Nat} {X Y Z bx by1 sq r1 run s2 i1 rise : Nat} (h : kc_rep (some q) X Y Z) (hbx : bx < kP) (hby : by1 < kP)
    (e1 : sq = Z * Z % kP) (e2 : r1 = bx * sq % kP) (e3 : run = kp_dif kP r1 X) (e4 : s2 = sq * Z % kP) (e5 : i1 = by1 * s2 % kP) (e6 : rise = kp_dif kP i1 Y) :
    (kj_f run = kj_f bx * (kj_f Z * kj_f Z) - kj_f X ∧ kj_f rise = kj_f by1 * (kj_f Z * kj_f Z * kj_f Z) - kj_f Y) ∧ (run = 0 ↔ q.1 = bx) ∧ (rise = 0 ↔ q.2 = by1) := by
  obtain ⟨hZl, hq1, hq2, hZ, hX, hY⟩ := h
  have g1 : kj_f run = kj_f bx * (kj_f Z * kj_f Z) - kj_f X := by rw [e3, e2, e1, kj_f_dif, kj_f_mod, kj_f_mul, kj_f_mod, kj_f_mul]
  have g2 : kj_f rise = kj_f by1 * (kj_f Z * kj_f Z * kj_f Z) - kj_f Y := by rw [e6, e5, e4, e1, kj_f_dif, kj_f_mod, kj_f_mul, kj_f_mod, kj_f_mul, kj_f_mod, kj_f_mul]
  have hr : run < kP := by rw [e3]; exact kp_dif_lt kP_pos
  have hi : rise < kP := by rw [e6]; exact kp_dif_lt kP_pos
  haveI : NeZero kP := ⟨by decide +kernel⟩
  refine ⟨⟨g1, g2⟩, ⟨fun h0 => ?_, fun h0 => ?_⟩, ⟨fun h0 => ?_, fun h0 => ?_⟩⟩
  · have k1 : kj_f (kp_dif kP bx q.1) * kj_f (Z ^ 2) = kj_f 0 := by
      rw [← h0, g1, hX, kj_f_dif, show Z ^ 2 = Z * Z by grind, kj_f_mul]
      grind
    have k2 := kc_unit hZl hZ (kp_dif_lt kP_pos) 2 k1
    rw [← kc_f0 (kp_dif_lt kP_pos), kj_f_dif] at k2
    have k3 : kj_f q.1 = kj_f bx := by
      have k4 : kj_f (0 : Nat) = 0 := rfl
      rw [k4] at k2
      grind
    exact (kc_fe hq1 hbx).mp k3
  · rw [← kc_f0 hr, g1, hX, h0]
    have k4 : kj_f (0 : Nat) = 0 := rfl
    rw [k4]
    grind
  · have k1 : kj_f (kp_dif kP by1 q.2) * kj_f (Z ^ 3) = kj_f 0 := by
      rw [← h0, g2, hY, kj_f_dif, show Z ^ 3 = Z * Z * Z by grind, kj_f_mul, kj_f_mul]
      grind
    have k2 := kc_unit hZl hZ (kp_dif_lt kP_pos) 3 k1
    rw [← kc_f0 (kp_dif_lt kP_pos), kj_f_dif] at k2
    have k3 : kj_f q.2 = kj_f by1 := by
      have k4 : kj_f (0 : Nat) = 0 := rfl
      rw [k4] at k2
      grind
    exact (kc_fe hq2 hby).mp k3
  · rw [← kc_f0 hi, g2, hY, h0]
    have k4 : kj_f (0 : Nat) = 0 := rfl
    rw [k4]
    grind
theorem kc_rep_follow {q : Nat × Nat} {X Y Z bx by1 run rise z1 sq cu sh x1 x2 x3 x4 s2 c2 y1 y2 : Nat} (h : kc_rep (some q) X Y Z) (hbx : bx < kP) (hby : by1 < kP)
    (g1 : kj_f run = kj_f bx * (kj_f Z * kj_f Z) - kj_f X) (g2 : kj_f rise = kj_f by1 * (kj_f Z * kj_f Z * kj_f Z) - kj_f Y) (hrl : run < kP) (hr0 : run ≠ 0) (hne : q.1 ≠ bx)
    (e1 : z1 = Z * run % kP) (e2 : sq = run * run % kP) (e3 : cu = sq * run % kP) (e4 : sh = X * sq % kP) (e5 : x1 = rise * rise % kP) (e6 : x2 = kp_dif kP x1 cu) (e7 : x3 = kp_dif kP x2 sh) (e8 : x4 = kp_dif kP x3 sh)
    (e9 : s2 = kp_dif kP sh x4) (e10 : c2 = cu * Y % kP) (e11 : y1 = rise * s2 % kP) (e12 : y2 = kp_dif kP y1 c2) : kc_rep (kc_join (some q) bx by1) x4 y2 z1 := by
  obtain ⟨hZl, hq1, hq2, hZ, hX, hY⟩ := h
  have hz1 : z1 < kP := by rw [e1]; exact Nat.mod_lt _ kP_pos
  have hz0 : z1 ≠ 0 := by
    intro h0
    rw [e1] at h0
    rcases kf_zero kP_prime h0 with h1 | h1
    · rw [Nat.mod_eq_of_lt hZl] at h1
      exact hZ h1
    · rw [Nat.mod_eq_of_lt hrl] at h1
      exact hr0 h1
  have e : kc_join (some q) bx by1 = some (kc_line (kp_dif kP by1 q.2) (kp_dif kP bx q.1) q.1 q.2 bx) := by
    rw [kc_join_some, if_neg hne]
  rw [e]
  haveI : NeZero kP := ⟨by decide +kernel⟩
  have ht2 : kp_dif kP bx q.1 ≠ 0 := by
    intro h0
    rw [← kc_f0 (kp_dif_lt kP_pos), kj_f_dif] at h0
    have k4 : kj_f (0 : Nat) = 0 := rfl
    rw [k4] at h0
    have k3 : kj_f q.1 = kj_f bx := by grind
    exact hne ((kc_fe hq1 hbx).mp k3)
  have hsl := kc_slope (t1 := kp_dif kP by1 q.2) (kp_dif_lt kP_pos) ht2
  generalize hS : kp_dif kP by1 q.2 * kf_inv kP (kp_dif kP bx q.1) % kP = S at hsl
  have hlt := kc_line_lt (kp_dif kP by1 q.2) (kp_dif kP bx q.1) q.1 q.2 bx
  have hl1 : (kc_line (kp_dif kP by1 q.2) (kp_dif kP bx q.1) q.1 q.2 bx).1 = kp_dif kP (kp_dif kP (S * S % kP) q.1) bx := by rw [← hS]; rfl
  have hl2 : (kc_line (kp_dif kP by1 q.2) (kp_dif kP bx q.1) q.1 q.2 bx).2 = kp_dif kP (kp_dif kP q.1 (kp_dif kP (kp_dif kP (S * S % kP) q.1) bx) * S % kP) q.2 := by rw [← hS]; rfl
  refine ⟨hz1, hlt.1, hlt.2, hz0, ?_⟩
  rw [hl1, hl2]
  simp only [kj_f_mod, kj_f_add, kj_f_mul, kj_f_dif] at hsl ⊢
  have f1 : kj_f z1 = kj_f Z * kj_f run := by rw [e1, kj_f_mod, kj_f_mul]
  have f2 : kj_f sq = kj_f run * kj_f run := by rw [e2, kj_f_mod, kj_f_mul]
  have f3 : kj_f cu = kj_f sq * kj_f run := by rw [e3, kj_f_mod, kj_f_mul]
  have f4 : kj_f sh = kj_f X * kj_f sq := by rw [e4, kj_f_mod, kj_f_mul]
  have f8 : kj_f x4 = kj_f rise * kj_f rise - kj_f cu - kj_f sh - kj_f sh := by rw [e8, e7, e6, e5, kj_f_dif, kj_f_dif, kj_f_dif, kj_f_mod, kj_f_mul]
  have f12 : kj_f y2 = kj_f rise * (kj_f sh - kj_f x4) - kj_f cu * kj_f Y := by rw [e12, e11, e10, e9, kj_f_dif, kj_f_mod, kj_f_mul, kj_f_dif, kj_f_mod, kj_f_mul]
  exact kj_add (kj_f X) (kj_f Y) (kj_f Z) (kj_f q.1) (kj_f q.2) (kj_f bx) (kj_f by1) (kj_f S) _ _ (kj_f run) (kj_f rise) (kj_f z1) (kj_f sq) (kj_f cu) (kj_f sh) (kj_f x4) (kj_f y2) hX hY hsl rfl (by grind) g1 g2 f1 f2 f3 f4 f8 f12
theorem kc_rep_end {q : Nat × Nat} {X Y Z w w2 w3 x y : Nat} (h : kc_rep (some q) X Y Z) (e1 : w = kf_inv kP Z) (e2 : w2 = w * w % kP) (e3 : w3 = w2 * w % kP) (e4 : x = X * w2 % kP) (e5 : y = Y * w3 % kP) : x = q.1 ∧ y = q.2 := by
  obtain ⟨hZl, hq1, hq2, hZ, hX, hY⟩ := h
  have hx : x < kP := by rw [e4]; exact Nat.mod_lt _ kP_pos
  have hy : y < kP := by rw [e5]; exact Nat.mod_lt _ kP_pos
  have hw := kc_inv hZl hZ
  haveI : NeZero kP := ⟨by decide +kernel⟩
  have k1 : kj_f (1 : Nat) = 1 := rfl
  rw [← e1, k1] at hw
  have h2 := kj_end (kj_f X) (kj_f Y) (kj_f Z) (kj_f q.1) (kj_f q.2) (kj_f w) hX hY hw
  constructor
  · apply (kc_fe hx hq1).mp
    rw [e4, e2, kj_f_mod, kj_f_mul, kj_f_mod, kj_f_mul]
    exact h2.1
  · apply (kc_fe hy hq2).mp
    rw [e5, e3, e2, kj_f_mod, kj_f_mul, kj_f_mod, kj_f_mul, kj_f_mod, kj_f_mul]
    exact h2.2
