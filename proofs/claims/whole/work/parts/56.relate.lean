/-! The class's numbers and the reference's (own rows). -/
def kl_R (o mo : Nat) (v w : Nat → Nat) (bs cs : Nat → Bool) : Prop := ∀ j, j < 4 → v (o + 2 + j) = w (mo + 2 + j) ∧ bs j = cs j ∧ (bs j = false → v (o + 7 + 3 * j + 1) = w (mo + 7 + j) ∧ v (o + 7 + 3 * j + 2) = w (mo + 12 + j) ∧ v (o + 7 + 3 * j + 1) < kP ∧ v (o + 7 + 3 * j + 2) < kP)
theorem kl_R.reg {o mo k : Nat} {v w v1 w1 : Nat → Nat} {bs cs : Nat → Bool} (h : kl_R o mo v w bs cs) (hk : k < 4) (e : v1 (o + 2 + k) = w1 (mo + 2 + k)) (kv : ∀ q, q ≠ o + 2 + k → o + 2 ≤ q → q ≤ o + 18 → v1 q = v q) (kw : ∀ q, q ≠ mo + 2 + k → mo + 2 ≤ q → q ≤ mo + 15 → w1 q = w q) : kl_R o mo v1 w1 bs cs := by
  intro j hj
  obtain ⟨h1, h2, h3⟩ := h j hj
  refine ⟨?_, h2, fun hb => ?_⟩
  · by_cases hjk : j = k
    · subst hjk
      exact e
    · rw [kv _ (by omega) (by omega) (by omega), kw _ (by omega) (by omega) (by omega)]
      exact h1
  · rw [kv (o + 7 + 3 * j + 1) (by omega) (by omega) (by omega), kv (o + 7 + 3 * j + 2) (by omega) (by omega) (by omega), kw (mo + 7 + j) (by omega) (by omega) (by omega), kw (mo + 12 + j) (by omega) (by omega) (by omega)]
    exact h3 hb
theorem kl_R.pt {o mo k : Nat} {v w v1 w1 : Nat → Nat} {bs cs bs1 cs1 : Nat → Bool} (h : kl_R o mo v w bs cs) (hk : k < 4) (eb : bs1 k = cs1 k) (ob : ∀ j, j ≠ k → bs1 j = bs j ∧ cs1 j = cs j) (hp : bs1 k = false → v1 (o + 7 + 3 * k + 1) = w1 (mo + 7 + k) ∧ v1 (o + 7 + 3 * k + 2) = w1 (mo + 12 + k) ∧ v1 (o + 7 + 3 * k + 1) < kP ∧ v1 (o + 7 + 3 * k + 2) < kP) (kv : ∀ q, q ≠ o + 7 + 3 * k + 1 → q ≠ o + 7 + 3 * k + 2 → o + 2 ≤ q → q ≤ o + 18 → v1 q = v q) (kw : ∀ q, q ≠ mo + 7 + k → q ≠ mo + 12 + k → mo + 2 ≤ q → q ≤ mo + 15 → w1 q = w q) : kl_R o mo v1 w1 bs1 cs1 := by
  intro j hj
  obtain ⟨h1, h2, h3⟩ := h j hj
  refine ⟨?_, ?_⟩
  · rw [kv (o + 2 + j) (by omega) (by omega) (by omega) (by omega), kw (mo + 2 + j) (by omega) (by omega) (by omega) (by omega)]
    exact h1
  · by_cases hjk : j = k
    · subst hjk
      exact ⟨eb, hp⟩
    · rw [(ob j hjk).1, (ob j hjk).2, kv (o + 7 + 3 * j + 1) (by omega) (by omega) (by omega) (by omega), kv (o + 7 + 3 * j + 2) (by omega) (by omega) (by omega) (by omega), kw (mo + 7 + j) (by omega) (by omega) (by omega) (by omega), kw (mo + 12 + j) (by omega) (by omega) (by omega) (by omega)]
      exact ⟨h2, h3⟩
theorem kx_ub_at (bs : Nat → Bool) (k : Nat) (b : Bool) : kx_ub bs k b k = b := by
  unfold kx_ub
  rw [if_pos rfl]
theorem kx_ub_ne (bs : Nat → Bool) {k j : Nat} (b : Bool) (h : j ≠ k) : kx_ub bs k b j = bs j := by
  unfold kx_ub
  rw [if_neg h]
theorem kx_h_ge (o : Nat) (d : Bool) : o + 19 ≤ kx_h o d := by
  unfold kx_h
  split <;> omega
theorem kl_R.sum2 {o mo a b : Nat} {v w : Nat → Nat} {bs cs : Nat → Bool} (h : kl_R o mo v w bs cs) (ha : a < 4) (hb : b < 4) : kc_sum2 (bs a) (v (o + 7 + 3 * a + 1)) (v (o + 7 + 3 * a + 2)) (bs b) (v (o + 7 + 3 * b + 1)) (v (o + 7 + 3 * b + 2)) = kc_sum2 (cs a) (w (mo + 7 + a)) (w (mo + 12 + a)) (cs b) (w (mo + 7 + b)) (w (mo + 12 + b)) := by
  obtain ⟨-, a2, a3⟩ := h a ha
  obtain ⟨-, b2, b3⟩ := h b hb
  rw [← a2, ← b2]
  unfold kc_sum2
  cases hba : bs a
  · obtain ⟨x1, x2, -⟩ := a3 hba
    rw [x1, x2]
    cases hbb : bs b
    · obtain ⟨y1, y2, -⟩ := b3 hbb
      rw [y1, y2]
    · rw [if_pos rfl, if_pos rfl]
  · cases hbb : bs b
    · obtain ⟨y1, y2, -⟩ := b3 hbb
      rw [y1, y2, if_pos rfl, if_pos rfl]
    · rw [if_pos rfl, if_pos rfl, if_pos rfl, if_pos rfl]
theorem kl_R.sum2_low {o mo a b : Nat} {v w : Nat → Nat} {bs cs : Nat → Bool} (h : kl_R o mo v w bs cs) (ha : a < 4) (hb : b < 4) : kc_low (kc_sum2 (bs a) (v (o + 7 + 3 * a + 1)) (v (o + 7 + 3 * a + 2)) (bs b) (v (o + 7 + 3 * b + 1)) (v (o + 7 + 3 * b + 2))) := by
  obtain ⟨-, -, a3⟩ := h a ha
  obtain ⟨-, -, b3⟩ := h b hb
  unfold kc_sum2
  split
  · split
    · intro q hq
      cases hq
    · rename_i n1
      obtain ⟨-, -, x1, x2⟩ := a3 (by cases hz : bs a; rfl; exact absurd hz n1)
      exact kc_join_low x1 x2
  · rename_i n1
    obtain ⟨-, -, y1, y2⟩ := b3 (by cases hz : bs b; rfl; exact absurd hz n1)
    exact kc_join_low y1 y2
theorem kc_mj_eq {N x y x1 y1 : Nat} {b : Bool} (h : b = false → x = x1 ∧ y = y1) (n : Nat) : kc_mj N b x y n = kc_mj N b x1 y1 n := by
  cases b
  · obtain ⟨rfl, rfl⟩ := h rfl
    rfl
  · rw [kc_mj_none, kc_mj_none]
theorem kc_mj_low {N x y : Nat} {b : Bool} (h : b = false → x < kP ∧ y < kP) : ∀ n, kc_low (kc_mj N b x y n) := by
  intro n
  cases n with
  | zero =>
    intro q hq
    cases hq
  | succ n =>
    rw [kc_mj_s]
    split
    · split
      · exact kc_twice_low
      · rename_i n1
        obtain ⟨h1, h2⟩ := h (by cases hz : b; rfl; exact absurd hz n1)
        exact kc_join_low h1 h2
    · exact kc_twice_low
theorem kc_even_lt {x : Nat} (h : x < kP) : kc_even x < kP := by
  unfold kc_even
  split
  · exact kp_dif_lt kP_pos
  · exact h
theorem kc_y_lt (x : Nat) (d : Bool) : kc_y x d < kP := by
  have hr : kc_root (kc_sq x) < kP := Nat.mod_lt _ kP_pos
  unfold kc_y
  split
  · exact kp_dif_lt kP_pos
  · exact kc_even_lt hr
theorem kc_hasb_lt {x : Nat} (h : kc_hasb x = true) : x < kP := (of_decide_eq_true h).1
theorem kG_lt : kX_G < kP ∧ kY_G < kP := by decide +kernel
/-- the first call's answer of 'same' is the second's -/
theorem kl_R.same {o mo a b : Nat} {v w : Nat → Nat} {bs cs : Nat → Bool} (h : kl_R o mo v w bs cs) (ha : a < 4) (hb : b < 4) : (if (bs a || bs b) = true then (bs a && bs b) else decide (v (o + 7 + 3 * a + 1) = v (o + 7 + 3 * b + 1) ∧ v (o + 7 + 3 * a + 2) = v (o + 7 + 3 * b + 2))) = kx_same (cs a) (cs b) (w (mo + 7 + a)) (w (mo + 7 + b)) (w (mo + 12 + a)) (w (mo + 12 + b)) := by
  obtain ⟨-, a2, a3⟩ := h a ha
  obtain ⟨-, b2, b3⟩ := h b hb
  rw [← a2, ← b2]
  unfold kx_same
  cases hba : bs a
  · cases hbb : bs b
    · obtain ⟨x1, x2, -⟩ := a3 hba
      obtain ⟨y1, y2, -⟩ := b3 hbb
      rw [if_neg (by decide), if_neg (by decide), x1, x2, y1, y2]
    · rfl
  · cases hbb : bs b
    · rfl
    · rfl
theorem kl_R.take {o mo r k : Nat} {v w : Nat → Nat} {bs cs : Nat → Bool} (h : kl_R o mo v w bs cs) (hr : r < 4) (hk : k < 4) (d : Bool) : (if bs k = true then v (o + 2 + r) else if d = true then v (o + 7 + 3 * k + 2) else v (o + 7 + 3 * k + 1)) = (if cs k = true then w (mo + 2 + r) else if d = true then w (mo + 12 + k) else w (mo + 7 + k)) := by
  obtain ⟨-, b2, b3⟩ := h k hk
  rw [← b2, (h r hr).1]
  cases hb : bs k
  · obtain ⟨x1, x2, -⟩ := b3 hb
    rw [x1, x2]
  · rw [if_pos rfl, if_pos rfl]
theorem kl_R.low {o mo : Nat} {v w : Nat → Nat} {bs cs : Nat → Bool} (h : kl_R o mo v w bs cs) : (∀ j, j < 4 → bs j = false → v (o + 7 + 3 * j + 1) < kP ∧ v (o + 7 + 3 * j + 2) < kP) ∧ ∀ j, j < 4 → cs j = false → w (mo + 7 + j) < kP ∧ w (mo + 12 + j) < kP := by
  refine ⟨fun j hj hb => ((h j hj).2.2 hb).2.2, fun j hj hb => ?_⟩
  obtain ⟨-, h2, h3⟩ := h j hj
  obtain ⟨x1, x2, x3, x4⟩ := h3 (h2.trans hb)
  rw [← x1, ← x2]
  exact ⟨x3, x4⟩
