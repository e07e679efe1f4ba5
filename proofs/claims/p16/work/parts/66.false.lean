/-! The statement is false at that start (own rows). -/
def kz_step (s : State) : State := stepsAlone start1.p0.tables start1.e0 1 s
/-- until the thread is at its floor: is the old cell 3 then another than it was? -/
def kz_end : Nat → State → Bool
  | 0, _ => false
  | n + 1, s => match decide (2 ≤ s.frames.length) with
    | true => kz_end n (kz_step s)
    | false => match decide (s.heap[3]?.bind (·.slots[0]?) = some (.long 4294966319)) with
      | true => false
      | false => true
theorem kz_run : kz_end 900 kz_bad = true := by decide +kernel
theorem kz_next (n : Nat) (s : State) : stepsAlone start1.p0.tables start1.e0 n (kz_step s) = stepsAlone start1.p0.tables start1.e0 (1 + n) s := (stepsAlone_add start1.p0.tables start1.e0 1 n s).symm
theorem kz_ends : ∀ (m : Nat) (s : State), kz_end m s = true → ∃ N, (∀ k, k < N → 2 ≤ (stepsAlone start1.p0.tables start1.e0 k s).frames.length) ∧ ¬ 2 ≤ (stepsAlone start1.p0.tables start1.e0 N s).frames.length ∧ (stepsAlone start1.p0.tables start1.e0 N s).heap[3]?.bind (·.slots[0]?) ≠ some (.long 4294966319) := by
  intro m
  induction m with
  | zero =>
    intro s h
    cases h
  | succ m ih =>
    intro s h
    unfold kz_end at h
    by_cases h2 : 2 ≤ s.frames.length
    · rw [decide_eq_true h2] at h
      obtain ⟨N, a1, a2, a3⟩ := ih (kz_step s) h
      refine ⟨1 + N, fun k hk => ?_, ?_, ?_⟩
      · cases k with
        | zero => exact h2
        | succ k =>
          have q := a1 k (by omega)
          rw [kz_next, Nat.add_comm] at q
          exact q
      · rw [kz_next] at a2
        exact a2
      · rw [kz_next] at a3
        exact a3
    · rw [decide_eq_false h2] at h
      refine ⟨0, fun k hk => absurd hk (Nat.not_lt_zero k), h2, fun q => ?_⟩
      have q : s.heap[3]?.bind (·.slots[0]?) = some (.long 4294966319) := q
      rw [decide_eq_true q] at h
      cases h
/-- what the statement says of that start -/
theorem kz_says (h : Claimed_1_1) : ∃ (n : Nat) (o : Outcome), (∀ k, k < n → Within (stepsAlone start1.p0.tables start1.e0 k kz_bad) Lib.HandBits.below0) ∧ Ended (stepsAlone start1.p0.tables start1.e0 n kz_bad) Lib.HandBits.below0 o ∧ Framed kz_bad o (stepsAlone start1.p0.tables start1.e0 n kz_bad) [] 600000 7302250 := by
  obtain ⟨s1, s2, s3, s4, s5, s6, s7, s8, s9, s10, s11, s12, s13⟩ := kz_start
  obtain ⟨n, o, h1, h2, h3, h4⟩ := h launch0 rfl s1 s2 start1.p0 start1.e0 s3 s5 s6 kz_bad ⟨0, 0⟩ start1.args0 Lib.HandBits.below0 s7 s8 s9 s10 ⟨s11, s12, s13⟩
  exact ⟨n, o, h1, h3, h4.2⟩
/-- THE STATEMENT IS FALSE AS IT IS WRITTEN -/
theorem p16_false_as_written : ¬ (Claimed_1_1 ∧ Claimed_1_2) := by
  intro h
  obtain ⟨n, o, hw, he, hf⟩ := kz_says h.1
  obtain ⟨N, a1, a2, a3⟩ := kz_ends 900 kz_bad kz_run
  obtain ⟨⟨v, rfl⟩, -, hsame⟩ := hf
  have hlen : (stepsAlone start1.p0.tables start1.e0 n kz_bad).frames.length = 1 := by
    have he1 : (stepsAlone start1.p0.tables start1.e0 n kz_bad).frames = _ := he
    rw [he1]
    rfl
  have hnN : n = N := by
    rcases Nat.lt_trichotomy n N with q | q | q
    · have := a1 n q
      omega
    · exact q
    · obtain ⟨above, b1, b2, -⟩ := hw N q
      exfalso
      apply a2
      rw [b1, List.length_append]
      have : above.length ≠ 0 := fun z => b2 (List.length_eq_zero_iff.mp z)
      show 2 ≤ above.length + 1
      omega
  subst hnN
  obtain ⟨c1, d1, -, -, d2⟩ := hsame.2.2.2.2.2 3 _ (show kz_bad.heap[3]? = some { cls := 20, slots := #[.long (4294966319), .long (4294967294), .long (4294967295), .long (4294967295), .long (4294967295), .long (4294967295), .long (4294967295), .long (4294967295)], vm := .none } from rfl)
  apply a3
  have d1 : (stepsAlone start1.p0.tables start1.e0 n kz_bad).heap[3]? = some c1 := d1
  rw [d1]
  exact d2 0 (fun q => by cases q)
