/-! The law's start: what is given of the static rows (own rows). -/
theorem kl_len {args : Array Value} {s : State} {t : Term} {N : Nat} {a : Nat} {cell : Cell} (hN : N < 2147483648) (h : (Term.length t).eval args s none [] s = some (.int (Int32.ofNat N))) (ht : t.eval args s none [] s = some (.ref a)) (hc : s.heap[a]? = some cell) : cell.slots.size = N := by
  simp only [Term.eval, Option.bind_eq_bind] at h
  rw [ht] at h
  simp only [Option.bind_some] at h
  obtain ⟨cell1, hcell, h⟩ := Option.bind_eq_some_iff.mp h
  have e1 := (State.arrayAt?_spec hcell).1
  cases e1.symm.trans hc
  by_cases hn : cell.slots.size < 2147483648
  · rw [if_pos hn] at h
    have h1 : cell.slots.size.toInt32 = Int32.ofNat N := Value.int.inj (Option.some.inj h)
    have h2 : (nI cell.slots.size).toInt = (nI N).toInt := by
      show (cell.slots.size.toInt32).toInt = (Int32.ofNat N).toInt
      rw [h1]
    rw [nI_toInt (by omega), nI_toInt (by omega)] at h2
    omega
  · rw [if_neg hn] at h
    cases h
theorem kl_stL {args : Array Value} {s : State} {C n : String} {V o : Nat} (ho : s.heap.size = o) (harr : (Cond.arrayOf (.static C n "[J") .long).before args s = true) (hlen : (Cond.eq (.length (.static C n "[J")) (.int 8)).before args s = true) (hel : ∀ j : Nat, j < 8 → (Cond.eq (.elem (.static C n "[J") (.int (Int32.ofNat j))) (.long (lN (kw_d V j)))).before args s = true) (hl : (Cond.laysStatic C n "[J").before args s = true) (hini : (Cond.initialized C).before args s = true) :
    ∃ t : Nat, t < o ∧ va_Z C n "[J" (.ref t) (fun q => o ≤ q) s s.heap ∧ kq_sL s s.heap t 8 V ∧ ∃ cell : Cell, s.heap[t]? = some cell ∧ (∀ k, cell.vm ≠ .statics k) ∧ cell.vm ≠ .unknown ∧ cell.slots.size = 8 ∧ ∀ j, j < 8 → cell.slots[j]? = some (.long (lN (kw_d V j))) := by
  have hA : ∀ a : Nat, a < s.heap.size → ¬ (fun q => o ≤ q) a := fun a ha hq => by
    have hq : o ≤ a := hq
    omega
  have hle := va_eqt hlen
  obtain ⟨t, ht, cell, h1, h2, h3, h4, h5, h6, h7⟩ := va_Tof (N := 8) (f := fun j => .long (lN (kw_d V j))) (A := fun q => o ≤ q) (by decide) harr hle (fun j hj => va_eqtl (hel j hj)) hA
  have hlt : t < o := Nat.lt_of_not_le h7
  exact ⟨t, hlt, va_Zref hl hini ht hA, ⟨cell, h1, h2, h3, h4, h6⟩, cell, h1, h2.1, h3, kl_len (by decide) hle ht h1, h6⟩
theorem kl_stI {args : Array Value} {s : State} {C n : String} {V o : Nat} (ho : s.heap.size = o) (harr : (Cond.arrayOf (.static C n "[I") .int).before args s = true) (hlen : (Cond.eq (.length (.static C n "[I")) (.int 8)).before args s = true) (hel : ∀ j : Nat, j < 8 → (Cond.eq (.elem (.static C n "[I") (.int (Int32.ofNat j))) (.int (nI (kw_d V j)))).before args s = true) (hl : (Cond.laysStatic C n "[I").before args s = true) (hini : (Cond.initialized C).before args s = true) :
    ∃ t : Nat, t < o ∧ va_Z C n "[I" (.ref t) (fun q => o ≤ q) s s.heap ∧ kq_sI s s.heap t 8 V := by
  have hA : ∀ a : Nat, a < s.heap.size → ¬ (fun q => o ≤ q) a := fun a ha hq => by
    have hq : o ≤ a := hq
    omega
  obtain ⟨t, ht, cell, h1, h2, h3, h4, h5, h6, h7⟩ := va_Tof (N := 8) (f := fun j => .int (nI (kw_d V j))) (A := fun q => o ≤ q) (by decide) harr (va_eqt hlen) (fun j hj => va_eqt (hel j hj)) hA
  have hlt : t < o := Nat.lt_of_not_le h7
  exact ⟨t, hlt, va_Zref hl hini ht hA, ⟨cell, h1, h2, h3, h4, h6⟩⟩
theorem kl_src {H : Heap} {c : ClassId} {t V : Nat} {cell : Cell} (h1 : H[t]? = some cell) (h2 : ∀ k, cell.vm ≠ .statics k) (h3 : cell.vm ≠ .unknown) (h4 : cell.cls = c) (h5 : cell.slots.size = 8) (h6 : ∀ j, j < 8 → cell.slots[j]? = some (.long (lN (kw_d V j)))) : kn_src H c t V := by
  refine ⟨cell, h1, h2, h3, h4, ?_⟩
  apply Array.ext
  · rw [h5]
    exact (arrV_size _ _ _).symm
  · intro i i1 i2
    have hi : i < 8 := by rw [h5] at i1; exact i1
    have q1 := h6 i hi
    have q2 : (kq_L c 8 V).slots[i]? = some (.long (lN (kw_d V i))) := arrV_read c _ hi
    rw [Array.getElem?_eq_getElem i1] at q1
    rw [Array.getElem?_eq_getElem i2] at q2
    exact (Option.some.inj q1).trans (Option.some.inj q2).symm
