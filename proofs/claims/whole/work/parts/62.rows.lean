/-! The law's start: the static rows, out of the premises (own rows). -/
theorem ks_L_FIELD {s : State} {b o : Nat} (ho : s.heap.size = o) (hts0 : ∀ w ∈ lw_tbl, w.before #[Value.ref b] s = true) (hgv : (Jvm.Cond.and given_1 narrow_1).before #[Value.ref b] s = true) : ∃ t : Nat, t < o ∧ va_Z "KeyCurve" "FIELD" "[J" (.ref t) (fun q => o ≤ q) s s.heap ∧ kq_sL s s.heap t 8 kP ∧ ∃ cell : Cell, s.heap[t]? = some cell ∧ (∀ k, cell.vm ≠ .statics k) ∧ cell.vm ≠ .unknown ∧ cell.slots.size = 8 ∧ ∀ j, j < 8 → cell.slots[j]? = some (.long (lN (kw_d kP j))) := by
  have hs := flat_of_before _ hgv
  refine kl_stL (args := #[Value.ref b]) ho (hs _ (by decide +kernel)) (hs _ (by decide +kernel)) (fun j hj => ?_) (hts0 _ (List.mem_of_getElem? (i := 68) (by decide +kernel))) (hts0 _ (List.mem_of_getElem? (i := 23) (by decide +kernel)))
  rcases (show j = 0 ∨ j = 1 ∨ j = 2 ∨ j = 3 ∨ j = 4 ∨ j = 5 ∨ j = 6 ∨ j = 7 by omega) with rfl | rfl | rfl | rfl | rfl | rfl | rfl | rfl
  · rw [show lN (kw_d kP 0) = (4294966319) from by decide +kernel]
    exact hs (Cond.eq (.elem (.static "KeyCurve" "FIELD" "[J") (.int 0)) (.long (4294966319))) (by decide +kernel)
  · rw [show lN (kw_d kP 1) = (4294967294) from by decide +kernel]
    exact hs (Cond.eq (.elem (.static "KeyCurve" "FIELD" "[J") (.int 1)) (.long (4294967294))) (by decide +kernel)
  · rw [show lN (kw_d kP 2) = (4294967295) from by decide +kernel]
    exact hs (Cond.eq (.elem (.static "KeyCurve" "FIELD" "[J") (.int 2)) (.long (4294967295))) (by decide +kernel)
  · rw [show lN (kw_d kP 3) = (4294967295) from by decide +kernel]
    exact hs (Cond.eq (.elem (.static "KeyCurve" "FIELD" "[J") (.int 3)) (.long (4294967295))) (by decide +kernel)
  · rw [show lN (kw_d kP 4) = (4294967295) from by decide +kernel]
    exact hs (Cond.eq (.elem (.static "KeyCurve" "FIELD" "[J") (.int 4)) (.long (4294967295))) (by decide +kernel)
  · rw [show lN (kw_d kP 5) = (4294967295) from by decide +kernel]
    exact hs (Cond.eq (.elem (.static "KeyCurve" "FIELD" "[J") (.int 5)) (.long (4294967295))) (by decide +kernel)
  · rw [show lN (kw_d kP 6) = (4294967295) from by decide +kernel]
    exact hs (Cond.eq (.elem (.static "KeyCurve" "FIELD" "[J") (.int 6)) (.long (4294967295))) (by decide +kernel)
  · rw [show lN (kw_d kP 7) = (4294967295) from by decide +kernel]
    exact hs (Cond.eq (.elem (.static "KeyCurve" "FIELD" "[J") (.int 7)) (.long (4294967295))) (by decide +kernel)
theorem ks_L_ONE {s : State} {b o : Nat} (ho : s.heap.size = o) (hts0 : ∀ w ∈ lw_tbl, w.before #[Value.ref b] s = true) (hgv : (Jvm.Cond.and given_1 narrow_1).before #[Value.ref b] s = true) : ∃ t : Nat, t < o ∧ va_Z "KeyCurve" "ONE" "[J" (.ref t) (fun q => o ≤ q) s s.heap ∧ kq_sL s s.heap t 8 1 ∧ ∃ cell : Cell, s.heap[t]? = some cell ∧ (∀ k, cell.vm ≠ .statics k) ∧ cell.vm ≠ .unknown ∧ cell.slots.size = 8 ∧ ∀ j, j < 8 → cell.slots[j]? = some (.long (lN (kw_d 1 j))) := by
  have hs := flat_of_before _ hgv
  refine kl_stL (args := #[Value.ref b]) ho (hs _ (by decide +kernel)) (hs _ (by decide +kernel)) (fun j hj => ?_) (hts0 _ (List.mem_of_getElem? (i := 264) (by decide +kernel))) (hts0 _ (List.mem_of_getElem? (i := 23) (by decide +kernel)))
  rcases (show j = 0 ∨ j = 1 ∨ j = 2 ∨ j = 3 ∨ j = 4 ∨ j = 5 ∨ j = 6 ∨ j = 7 by omega) with rfl | rfl | rfl | rfl | rfl | rfl | rfl | rfl
  · rw [show lN (kw_d 1 0) = (1) from by decide +kernel]
    exact hs (Cond.eq (.elem (.static "KeyCurve" "ONE" "[J") (.int 0)) (.long (1))) (by decide +kernel)
  · rw [show lN (kw_d 1 1) = (0) from by decide +kernel]
    exact hs (Cond.eq (.elem (.static "KeyCurve" "ONE" "[J") (.int 1)) (.long (0))) (by decide +kernel)
  · rw [show lN (kw_d 1 2) = (0) from by decide +kernel]
    exact hs (Cond.eq (.elem (.static "KeyCurve" "ONE" "[J") (.int 2)) (.long (0))) (by decide +kernel)
  · rw [show lN (kw_d 1 3) = (0) from by decide +kernel]
    exact hs (Cond.eq (.elem (.static "KeyCurve" "ONE" "[J") (.int 3)) (.long (0))) (by decide +kernel)
  · rw [show lN (kw_d 1 4) = (0) from by decide +kernel]
    exact hs (Cond.eq (.elem (.static "KeyCurve" "ONE" "[J") (.int 4)) (.long (0))) (by decide +kernel)
  · rw [show lN (kw_d 1 5) = (0) from by decide +kernel]
    exact hs (Cond.eq (.elem (.static "KeyCurve" "ONE" "[J") (.int 5)) (.long (0))) (by decide +kernel)
  · rw [show lN (kw_d 1 6) = (0) from by decide +kernel]
    exact hs (Cond.eq (.elem (.static "KeyCurve" "ONE" "[J") (.int 6)) (.long (0))) (by decide +kernel)
  · rw [show lN (kw_d 1 7) = (0) from by decide +kernel]
    exact hs (Cond.eq (.elem (.static "KeyCurve" "ONE" "[J") (.int 7)) (.long (0))) (by decide +kernel)
theorem ks_L_SEVEN {s : State} {b o : Nat} (ho : s.heap.size = o) (hts0 : ∀ w ∈ lw_tbl, w.before #[Value.ref b] s = true) (hgv : (Jvm.Cond.and given_1 narrow_1).before #[Value.ref b] s = true) : ∃ t : Nat, t < o ∧ va_Z "KeyCurve" "SEVEN" "[J" (.ref t) (fun q => o ≤ q) s s.heap ∧ kq_sL s s.heap t 8 7 ∧ ∃ cell : Cell, s.heap[t]? = some cell ∧ (∀ k, cell.vm ≠ .statics k) ∧ cell.vm ≠ .unknown ∧ cell.slots.size = 8 ∧ ∀ j, j < 8 → cell.slots[j]? = some (.long (lN (kw_d 7 j))) := by
  have hs := flat_of_before _ hgv
  refine kl_stL (args := #[Value.ref b]) ho (hs _ (by decide +kernel)) (hs _ (by decide +kernel)) (fun j hj => ?_) (hts0 _ (List.mem_of_getElem? (i := 326) (by decide +kernel))) (hts0 _ (List.mem_of_getElem? (i := 23) (by decide +kernel)))
  rcases (show j = 0 ∨ j = 1 ∨ j = 2 ∨ j = 3 ∨ j = 4 ∨ j = 5 ∨ j = 6 ∨ j = 7 by omega) with rfl | rfl | rfl | rfl | rfl | rfl | rfl | rfl
  · rw [show lN (kw_d 7 0) = (7) from by decide +kernel]
    exact hs (Cond.eq (.elem (.static "KeyCurve" "SEVEN" "[J") (.int 0)) (.long (7))) (by decide +kernel)
  · rw [show lN (kw_d 7 1) = (0) from by decide +kernel]
    exact hs (Cond.eq (.elem (.static "KeyCurve" "SEVEN" "[J") (.int 1)) (.long (0))) (by decide +kernel)
  · rw [show lN (kw_d 7 2) = (0) from by decide +kernel]
    exact hs (Cond.eq (.elem (.static "KeyCurve" "SEVEN" "[J") (.int 2)) (.long (0))) (by decide +kernel)
  · rw [show lN (kw_d 7 3) = (0) from by decide +kernel]
    exact hs (Cond.eq (.elem (.static "KeyCurve" "SEVEN" "[J") (.int 3)) (.long (0))) (by decide +kernel)
  · rw [show lN (kw_d 7 4) = (0) from by decide +kernel]
    exact hs (Cond.eq (.elem (.static "KeyCurve" "SEVEN" "[J") (.int 4)) (.long (0))) (by decide +kernel)
  · rw [show lN (kw_d 7 5) = (0) from by decide +kernel]
    exact hs (Cond.eq (.elem (.static "KeyCurve" "SEVEN" "[J") (.int 5)) (.long (0))) (by decide +kernel)
  · rw [show lN (kw_d 7 6) = (0) from by decide +kernel]
    exact hs (Cond.eq (.elem (.static "KeyCurve" "SEVEN" "[J") (.int 6)) (.long (0))) (by decide +kernel)
  · rw [show lN (kw_d 7 7) = (0) from by decide +kernel]
    exact hs (Cond.eq (.elem (.static "KeyCurve" "SEVEN" "[J") (.int 7)) (.long (0))) (by decide +kernel)
theorem ks_L_ROOT_POWER {s : State} {b o : Nat} (ho : s.heap.size = o) (hts0 : ∀ w ∈ lw_tbl, w.before #[Value.ref b] s = true) (hgv : (Jvm.Cond.and given_1 narrow_1).before #[Value.ref b] s = true) : ∃ t : Nat, t < o ∧ va_Z "KeyCurve" "ROOT_POWER" "[J" (.ref t) (fun q => o ≤ q) s s.heap ∧ kq_sL s s.heap t 8 ((kP + 1) / 4) ∧ ∃ cell : Cell, s.heap[t]? = some cell ∧ (∀ k, cell.vm ≠ .statics k) ∧ cell.vm ≠ .unknown ∧ cell.slots.size = 8 ∧ ∀ j, j < 8 → cell.slots[j]? = some (.long (lN (kw_d ((kP + 1) / 4) j))) := by
  have hs := flat_of_before _ hgv
  refine kl_stL (args := #[Value.ref b]) ho (hs _ (by decide +kernel)) (hs _ (by decide +kernel)) (fun j hj => ?_) (hts0 _ (List.mem_of_getElem? (i := 280) (by decide +kernel))) (hts0 _ (List.mem_of_getElem? (i := 23) (by decide +kernel)))
  rcases (show j = 0 ∨ j = 1 ∨ j = 2 ∨ j = 3 ∨ j = 4 ∨ j = 5 ∨ j = 6 ∨ j = 7 by omega) with rfl | rfl | rfl | rfl | rfl | rfl | rfl | rfl
  · rw [show lN (kw_d ((kP + 1) / 4) 0) = (3221225228) from by decide +kernel]
    exact hs (Cond.eq (.elem (.static "KeyCurve" "ROOT_POWER" "[J") (.int 0)) (.long (3221225228))) (by decide +kernel)
  · rw [show lN (kw_d ((kP + 1) / 4) 1) = (4294967295) from by decide +kernel]
    exact hs (Cond.eq (.elem (.static "KeyCurve" "ROOT_POWER" "[J") (.int 1)) (.long (4294967295))) (by decide +kernel)
  · rw [show lN (kw_d ((kP + 1) / 4) 2) = (4294967295) from by decide +kernel]
    exact hs (Cond.eq (.elem (.static "KeyCurve" "ROOT_POWER" "[J") (.int 2)) (.long (4294967295))) (by decide +kernel)
  · rw [show lN (kw_d ((kP + 1) / 4) 3) = (4294967295) from by decide +kernel]
    exact hs (Cond.eq (.elem (.static "KeyCurve" "ROOT_POWER" "[J") (.int 3)) (.long (4294967295))) (by decide +kernel)
  · rw [show lN (kw_d ((kP + 1) / 4) 4) = (4294967295) from by decide +kernel]
    exact hs (Cond.eq (.elem (.static "KeyCurve" "ROOT_POWER" "[J") (.int 4)) (.long (4294967295))) (by decide +kernel)
  · rw [show lN (kw_d ((kP + 1) / 4) 5) = (4294967295) from by decide +kernel]
    exact hs (Cond.eq (.elem (.static "KeyCurve" "ROOT_POWER" "[J") (.int 5)) (.long (4294967295))) (by decide +kernel)
  · rw [show lN (kw_d ((kP + 1) / 4) 6) = (4294967295) from by decide +kernel]
    exact hs (Cond.eq (.elem (.static "KeyCurve" "ROOT_POWER" "[J") (.int 6)) (.long (4294967295))) (by decide +kernel)
  · rw [show lN (kw_d ((kP + 1) / 4) 7) = (1073741823) from by decide +kernel]
    exact hs (Cond.eq (.elem (.static "KeyCurve" "ROOT_POWER" "[J") (.int 7)) (.long (1073741823))) (by decide +kernel)
theorem ks_L_BASE_X {s : State} {b o : Nat} (ho : s.heap.size = o) (hts0 : ∀ w ∈ lw_tbl, w.before #[Value.ref b] s = true) (hgv : (Jvm.Cond.and given_1 narrow_1).before #[Value.ref b] s = true) : ∃ t : Nat, t < o ∧ va_Z "KeyCurve" "BASE_X" "[J" (.ref t) (fun q => o ≤ q) s s.heap ∧ kq_sL s s.heap t 8 kX_G ∧ ∃ cell : Cell, s.heap[t]? = some cell ∧ (∀ k, cell.vm ≠ .statics k) ∧ cell.vm ≠ .unknown ∧ cell.slots.size = 8 ∧ ∀ j, j < 8 → cell.slots[j]? = some (.long (lN (kw_d kX_G j))) := by
  have hs := flat_of_before _ hgv
  refine kl_stL (args := #[Value.ref b]) ho (hs _ (by decide +kernel)) (hs _ (by decide +kernel)) (fun j hj => ?_) (hts0 _ (List.mem_of_getElem? (i := 300) (by decide +kernel))) (hts0 _ (List.mem_of_getElem? (i := 23) (by decide +kernel)))
  rcases (show j = 0 ∨ j = 1 ∨ j = 2 ∨ j = 3 ∨ j = 4 ∨ j = 5 ∨ j = 6 ∨ j = 7 by omega) with rfl | rfl | rfl | rfl | rfl | rfl | rfl | rfl
  · rw [show lN (kw_d kX_G 0) = (385357720) from by decide +kernel]
    exact hs (Cond.eq (.elem (.static "KeyCurve" "BASE_X" "[J") (.int 0)) (.long (385357720))) (by decide +kernel)
  · rw [show lN (kw_d kX_G 1) = (1509065051) from by decide +kernel]
    exact hs (Cond.eq (.elem (.static "KeyCurve" "BASE_X" "[J") (.int 1)) (.long (1509065051))) (by decide +kernel)
  · rw [show lN (kw_d kX_G 2) = (768485593) from by decide +kernel]
    exact hs (Cond.eq (.elem (.static "KeyCurve" "BASE_X" "[J") (.int 2)) (.long (768485593))) (by decide +kernel)
  · rw [show lN (kw_d kX_G 3) = (43777243) from by decide +kernel]
    exact hs (Cond.eq (.elem (.static "KeyCurve" "BASE_X" "[J") (.int 3)) (.long (43777243))) (by decide +kernel)
  · rw [show lN (kw_d kX_G 4) = (3464956679) from by decide +kernel]
    exact hs (Cond.eq (.elem (.static "KeyCurve" "BASE_X" "[J") (.int 4)) (.long (3464956679))) (by decide +kernel)
  · rw [show lN (kw_d kX_G 5) = (1436574357) from by decide +kernel]
    exact hs (Cond.eq (.elem (.static "KeyCurve" "BASE_X" "[J") (.int 5)) (.long (1436574357))) (by decide +kernel)
  · rw [show lN (kw_d kX_G 6) = (4191992748) from by decide +kernel]
    exact hs (Cond.eq (.elem (.static "KeyCurve" "BASE_X" "[J") (.int 6)) (.long (4191992748))) (by decide +kernel)
  · rw [show lN (kw_d kX_G 7) = (2042521214) from by decide +kernel]
    exact hs (Cond.eq (.elem (.static "KeyCurve" "BASE_X" "[J") (.int 7)) (.long (2042521214))) (by decide +kernel)
theorem ks_L_BASE_Y {s : State} {b o : Nat} (ho : s.heap.size = o) (hts0 : ∀ w ∈ lw_tbl, w.before #[Value.ref b] s = true) (hgv : (Jvm.Cond.and given_1 narrow_1).before #[Value.ref b] s = true) : ∃ t : Nat, t < o ∧ va_Z "KeyCurve" "BASE_Y" "[J" (.ref t) (fun q => o ≤ q) s s.heap ∧ kq_sL s s.heap t 8 kY_G ∧ ∃ cell : Cell, s.heap[t]? = some cell ∧ (∀ k, cell.vm ≠ .statics k) ∧ cell.vm ≠ .unknown ∧ cell.slots.size = 8 ∧ ∀ j, j < 8 → cell.slots[j]? = some (.long (lN (kw_d kY_G j))) := by
  have hs := flat_of_before _ hgv
  refine kl_stL (args := #[Value.ref b]) ho (hs _ (by decide +kernel)) (hs _ (by decide +kernel)) (fun j hj => ?_) (hts0 _ (List.mem_of_getElem? (i := 302) (by decide +kernel))) (hts0 _ (List.mem_of_getElem? (i := 23) (by decide +kernel)))
  rcases (show j = 0 ∨ j = 1 ∨ j = 2 ∨ j = 3 ∨ j = 4 ∨ j = 5 ∨ j = 6 ∨ j = 7 by omega) with rfl | rfl | rfl | rfl | rfl | rfl | rfl | rfl
  · rw [show lN (kw_d kY_G 0) = (4212184248) from by decide +kernel]
    exact hs (Cond.eq (.elem (.static "KeyCurve" "BASE_Y" "[J") (.int 0)) (.long (4212184248))) (by decide +kernel)
  · rw [show lN (kw_d kY_G 1) = (2621952143) from by decide +kernel]
    exact hs (Cond.eq (.elem (.static "KeyCurve" "BASE_Y" "[J") (.int 1)) (.long (2621952143))) (by decide +kernel)
  · rw [show lN (kw_d kY_G 2) = (2793755673) from by decide +kernel]
    exact hs (Cond.eq (.elem (.static "KeyCurve" "BASE_Y" "[J") (.int 2)) (.long (2793755673))) (by decide +kernel)
  · rw [show lN (kw_d kY_G 3) = (4246189128) from by decide +kernel]
    exact hs (Cond.eq (.elem (.static "KeyCurve" "BASE_Y" "[J") (.int 3)) (.long (4246189128))) (by decide +kernel)
  · rw [show lN (kw_d kY_G 4) = (235997352) from by decide +kernel]
    exact hs (Cond.eq (.elem (.static "KeyCurve" "BASE_Y" "[J") (.int 4)) (.long (235997352))) (by decide +kernel)
  · rw [show lN (kw_d kY_G 5) = (1571093500) from by decide +kernel]
    exact hs (Cond.eq (.elem (.static "KeyCurve" "BASE_Y" "[J") (.int 5)) (.long (1571093500))) (by decide +kernel)
  · rw [show lN (kw_d kY_G 6) = (648266853) from by decide +kernel]
    exact hs (Cond.eq (.elem (.static "KeyCurve" "BASE_Y" "[J") (.int 6)) (.long (648266853))) (by decide +kernel)
  · rw [show lN (kw_d kY_G 7) = (1211816567) from by decide +kernel]
    exact hs (Cond.eq (.elem (.static "KeyCurve" "BASE_Y" "[J") (.int 7)) (.long (1211816567))) (by decide +kernel)
theorem ks_L_FIELD_GAP {s : State} {b o : Nat} (ho : s.heap.size = o) (hts0 : ∀ w ∈ lw_tbl, w.before #[Value.ref b] s = true) (hgv : (Jvm.Cond.and given_1 narrow_1).before #[Value.ref b] s = true) : ∃ t : Nat, t < o ∧ va_Z "KeyCurve" "FIELD_GAP" "[J" (.ref t) (fun q => o ≤ q) s s.heap ∧ kq_sL s s.heap t 8 kG_P ∧ ∃ cell : Cell, s.heap[t]? = some cell ∧ (∀ k, cell.vm ≠ .statics k) ∧ cell.vm ≠ .unknown ∧ cell.slots.size = 8 ∧ ∀ j, j < 8 → cell.slots[j]? = some (.long (lN (kw_d kG_P j))) := by
  have hs := flat_of_before _ hgv
  refine kl_stL (args := #[Value.ref b]) ho (hs _ (by decide +kernel)) (hs _ (by decide +kernel)) (fun j hj => ?_) (hts0 _ (List.mem_of_getElem? (i := 70) (by decide +kernel))) (hts0 _ (List.mem_of_getElem? (i := 23) (by decide +kernel)))
  rcases (show j = 0 ∨ j = 1 ∨ j = 2 ∨ j = 3 ∨ j = 4 ∨ j = 5 ∨ j = 6 ∨ j = 7 by omega) with rfl | rfl | rfl | rfl | rfl | rfl | rfl | rfl
  · rw [show lN (kw_d kG_P 0) = (977) from by decide +kernel]
    exact hs (Cond.eq (.elem (.static "KeyCurve" "FIELD_GAP" "[J") (.int 0)) (.long (977))) (by decide +kernel)
  · rw [show lN (kw_d kG_P 1) = (1) from by decide +kernel]
    exact hs (Cond.eq (.elem (.static "KeyCurve" "FIELD_GAP" "[J") (.int 1)) (.long (1))) (by decide +kernel)
  · rw [show lN (kw_d kG_P 2) = (0) from by decide +kernel]
    exact hs (Cond.eq (.elem (.static "KeyCurve" "FIELD_GAP" "[J") (.int 2)) (.long (0))) (by decide +kernel)
  · rw [show lN (kw_d kG_P 3) = (0) from by decide +kernel]
    exact hs (Cond.eq (.elem (.static "KeyCurve" "FIELD_GAP" "[J") (.int 3)) (.long (0))) (by decide +kernel)
  · rw [show lN (kw_d kG_P 4) = (0) from by decide +kernel]
    exact hs (Cond.eq (.elem (.static "KeyCurve" "FIELD_GAP" "[J") (.int 4)) (.long (0))) (by decide +kernel)
  · rw [show lN (kw_d kG_P 5) = (0) from by decide +kernel]
    exact hs (Cond.eq (.elem (.static "KeyCurve" "FIELD_GAP" "[J") (.int 5)) (.long (0))) (by decide +kernel)
  · rw [show lN (kw_d kG_P 6) = (0) from by decide +kernel]
    exact hs (Cond.eq (.elem (.static "KeyCurve" "FIELD_GAP" "[J") (.int 6)) (.long (0))) (by decide +kernel)
  · rw [show lN (kw_d kG_P 7) = (0) from by decide +kernel]
    exact hs (Cond.eq (.elem (.static "KeyCurve" "FIELD_GAP" "[J") (.int 7)) (.long (0))) (by decide +kernel)
theorem ks_L_ORDER {s : State} {b o : Nat} (ho : s.heap.size = o) (hts0 : ∀ w ∈ lw_tbl, w.before #[Value.ref b] s = true) (hgv : (Jvm.Cond.and given_1 narrow_1).before #[Value.ref b] s = true) : ∃ t : Nat, t < o ∧ va_Z "KeyCurve" "ORDER" "[J" (.ref t) (fun q => o ≤ q) s s.heap ∧ kq_sL s s.heap t 8 kN ∧ ∃ cell : Cell, s.heap[t]? = some cell ∧ (∀ k, cell.vm ≠ .statics k) ∧ cell.vm ≠ .unknown ∧ cell.slots.size = 8 ∧ ∀ j, j < 8 → cell.slots[j]? = some (.long (lN (kw_d kN j))) := by
  have hs := flat_of_before _ hgv
  refine kl_stL (args := #[Value.ref b]) ho (hs _ (by decide +kernel)) (hs _ (by decide +kernel)) (fun j hj => ?_) (hts0 _ (List.mem_of_getElem? (i := 112) (by decide +kernel))) (hts0 _ (List.mem_of_getElem? (i := 23) (by decide +kernel)))
  rcases (show j = 0 ∨ j = 1 ∨ j = 2 ∨ j = 3 ∨ j = 4 ∨ j = 5 ∨ j = 6 ∨ j = 7 by omega) with rfl | rfl | rfl | rfl | rfl | rfl | rfl | rfl
  · rw [show lN (kw_d kN 0) = (3493216577) from by decide +kernel]
    exact hs (Cond.eq (.elem (.static "KeyCurve" "ORDER" "[J") (.int 0)) (.long (3493216577))) (by decide +kernel)
  · rw [show lN (kw_d kN 1) = (3218235020) from by decide +kernel]
    exact hs (Cond.eq (.elem (.static "KeyCurve" "ORDER" "[J") (.int 1)) (.long (3218235020))) (by decide +kernel)
  · rw [show lN (kw_d kN 2) = (2940772411) from by decide +kernel]
    exact hs (Cond.eq (.elem (.static "KeyCurve" "ORDER" "[J") (.int 2)) (.long (2940772411))) (by decide +kernel)
  · rw [show lN (kw_d kN 3) = (3132021990) from by decide +kernel]
    exact hs (Cond.eq (.elem (.static "KeyCurve" "ORDER" "[J") (.int 3)) (.long (3132021990))) (by decide +kernel)
  · rw [show lN (kw_d kN 4) = (4294967294) from by decide +kernel]
    exact hs (Cond.eq (.elem (.static "KeyCurve" "ORDER" "[J") (.int 4)) (.long (4294967294))) (by decide +kernel)
  · rw [show lN (kw_d kN 5) = (4294967295) from by decide +kernel]
    exact hs (Cond.eq (.elem (.static "KeyCurve" "ORDER" "[J") (.int 5)) (.long (4294967295))) (by decide +kernel)
  · rw [show lN (kw_d kN 6) = (4294967295) from by decide +kernel]
    exact hs (Cond.eq (.elem (.static "KeyCurve" "ORDER" "[J") (.int 6)) (.long (4294967295))) (by decide +kernel)
  · rw [show lN (kw_d kN 7) = (4294967295) from by decide +kernel]
    exact hs (Cond.eq (.elem (.static "KeyCurve" "ORDER" "[J") (.int 7)) (.long (4294967295))) (by decide +kernel)
theorem ks_L_ORDER_GAP {s : State} {b o : Nat} (ho : s.heap.size = o) (hts0 : ∀ w ∈ lw_tbl, w.before #[Value.ref b] s = true) (hgv : (Jvm.Cond.and given_1 narrow_1).before #[Value.ref b] s = true) : ∃ t : Nat, t < o ∧ va_Z "KeyCurve" "ORDER_GAP" "[J" (.ref t) (fun q => o ≤ q) s s.heap ∧ kq_sL s s.heap t 8 kG_N ∧ ∃ cell : Cell, s.heap[t]? = some cell ∧ (∀ k, cell.vm ≠ .statics k) ∧ cell.vm ≠ .unknown ∧ cell.slots.size = 8 ∧ ∀ j, j < 8 → cell.slots[j]? = some (.long (lN (kw_d kG_N j))) := by
  have hs := flat_of_before _ hgv
  refine kl_stL (args := #[Value.ref b]) ho (hs _ (by decide +kernel)) (hs _ (by decide +kernel)) (fun j hj => ?_) (hts0 _ (List.mem_of_getElem? (i := 114) (by decide +kernel))) (hts0 _ (List.mem_of_getElem? (i := 23) (by decide +kernel)))
  rcases (show j = 0 ∨ j = 1 ∨ j = 2 ∨ j = 3 ∨ j = 4 ∨ j = 5 ∨ j = 6 ∨ j = 7 by omega) with rfl | rfl | rfl | rfl | rfl | rfl | rfl | rfl
  · rw [show lN (kw_d kG_N 0) = (801750719) from by decide +kernel]
    exact hs (Cond.eq (.elem (.static "KeyCurve" "ORDER_GAP" "[J") (.int 0)) (.long (801750719))) (by decide +kernel)
  · rw [show lN (kw_d kG_N 1) = (1076732275) from by decide +kernel]
    exact hs (Cond.eq (.elem (.static "KeyCurve" "ORDER_GAP" "[J") (.int 1)) (.long (1076732275))) (by decide +kernel)
  · rw [show lN (kw_d kG_N 2) = (1354194884) from by decide +kernel]
    exact hs (Cond.eq (.elem (.static "KeyCurve" "ORDER_GAP" "[J") (.int 2)) (.long (1354194884))) (by decide +kernel)
  · rw [show lN (kw_d kG_N 3) = (1162945305) from by decide +kernel]
    exact hs (Cond.eq (.elem (.static "KeyCurve" "ORDER_GAP" "[J") (.int 3)) (.long (1162945305))) (by decide +kernel)
  · rw [show lN (kw_d kG_N 4) = (1) from by decide +kernel]
    exact hs (Cond.eq (.elem (.static "KeyCurve" "ORDER_GAP" "[J") (.int 4)) (.long (1))) (by decide +kernel)
  · rw [show lN (kw_d kG_N 5) = (0) from by decide +kernel]
    exact hs (Cond.eq (.elem (.static "KeyCurve" "ORDER_GAP" "[J") (.int 5)) (.long (0))) (by decide +kernel)
  · rw [show lN (kw_d kG_N 6) = (0) from by decide +kernel]
    exact hs (Cond.eq (.elem (.static "KeyCurve" "ORDER_GAP" "[J") (.int 6)) (.long (0))) (by decide +kernel)
  · rw [show lN (kw_d kG_N 7) = (0) from by decide +kernel]
    exact hs (Cond.eq (.elem (.static "KeyCurve" "ORDER_GAP" "[J") (.int 7)) (.long (0))) (by decide +kernel)
theorem ks_I_P {s : State} {b o : Nat} (ho : s.heap.size = o) (hts0 : ∀ w ∈ lw_tbl, w.before #[Value.ref b] s = true) (hgv : (Jvm.Cond.and given_1 narrow_1).before #[Value.ref b] s = true) : ∃ t : Nat, t < o ∧ va_Z "KeyCurveModel" "P" "[I" (.ref t) (fun q => o ≤ q) s s.heap ∧ kq_sI s s.heap t 8 kP := by
  have hs := flat_of_before _ hgv
  refine kl_stI (args := #[Value.ref b]) ho (hs _ (by decide +kernel)) (hs _ (by decide +kernel)) (fun j hj => ?_) (hts0 _ (List.mem_of_getElem? (i := 476) (by decide +kernel))) (hts0 _ (List.mem_of_getElem? (i := 27) (by decide +kernel)))
  rcases (show j = 0 ∨ j = 1 ∨ j = 2 ∨ j = 3 ∨ j = 4 ∨ j = 5 ∨ j = 6 ∨ j = 7 by omega) with rfl | rfl | rfl | rfl | rfl | rfl | rfl | rfl
  · rw [show nI (kw_d kP 0) = (-977) from by decide +kernel]
    exact hs (Cond.eq (.elem (.static "KeyCurveModel" "P" "[I") (.int 0)) (.int (-977))) (by decide +kernel)
  · rw [show nI (kw_d kP 1) = (-2) from by decide +kernel]
    exact hs (Cond.eq (.elem (.static "KeyCurveModel" "P" "[I") (.int 1)) (.int (-2))) (by decide +kernel)
  · rw [show nI (kw_d kP 2) = (-1) from by decide +kernel]
    exact hs (Cond.eq (.elem (.static "KeyCurveModel" "P" "[I") (.int 2)) (.int (-1))) (by decide +kernel)
  · rw [show nI (kw_d kP 3) = (-1) from by decide +kernel]
    exact hs (Cond.eq (.elem (.static "KeyCurveModel" "P" "[I") (.int 3)) (.int (-1))) (by decide +kernel)
  · rw [show nI (kw_d kP 4) = (-1) from by decide +kernel]
    exact hs (Cond.eq (.elem (.static "KeyCurveModel" "P" "[I") (.int 4)) (.int (-1))) (by decide +kernel)
  · rw [show nI (kw_d kP 5) = (-1) from by decide +kernel]
    exact hs (Cond.eq (.elem (.static "KeyCurveModel" "P" "[I") (.int 5)) (.int (-1))) (by decide +kernel)
  · rw [show nI (kw_d kP 6) = (-1) from by decide +kernel]
    exact hs (Cond.eq (.elem (.static "KeyCurveModel" "P" "[I") (.int 6)) (.int (-1))) (by decide +kernel)
  · rw [show nI (kw_d kP 7) = (-1) from by decide +kernel]
    exact hs (Cond.eq (.elem (.static "KeyCurveModel" "P" "[I") (.int 7)) (.int (-1))) (by decide +kernel)
theorem ks_I_N {s : State} {b o : Nat} (ho : s.heap.size = o) (hts0 : ∀ w ∈ lw_tbl, w.before #[Value.ref b] s = true) (hgv : (Jvm.Cond.and given_1 narrow_1).before #[Value.ref b] s = true) : ∃ t : Nat, t < o ∧ va_Z "KeyCurveModel" "N" "[I" (.ref t) (fun q => o ≤ q) s s.heap ∧ kq_sI s s.heap t 8 kN := by
  have hs := flat_of_before _ hgv
  refine kl_stI (args := #[Value.ref b]) ho (hs _ (by decide +kernel)) (hs _ (by decide +kernel)) (fun j hj => ?_) (hts0 _ (List.mem_of_getElem? (i := 474) (by decide +kernel))) (hts0 _ (List.mem_of_getElem? (i := 27) (by decide +kernel)))
  rcases (show j = 0 ∨ j = 1 ∨ j = 2 ∨ j = 3 ∨ j = 4 ∨ j = 5 ∨ j = 6 ∨ j = 7 by omega) with rfl | rfl | rfl | rfl | rfl | rfl | rfl | rfl
  · rw [show nI (kw_d kN 0) = (-801750719) from by decide +kernel]
    exact hs (Cond.eq (.elem (.static "KeyCurveModel" "N" "[I") (.int 0)) (.int (-801750719))) (by decide +kernel)
  · rw [show nI (kw_d kN 1) = (-1076732276) from by decide +kernel]
    exact hs (Cond.eq (.elem (.static "KeyCurveModel" "N" "[I") (.int 1)) (.int (-1076732276))) (by decide +kernel)
  · rw [show nI (kw_d kN 2) = (-1354194885) from by decide +kernel]
    exact hs (Cond.eq (.elem (.static "KeyCurveModel" "N" "[I") (.int 2)) (.int (-1354194885))) (by decide +kernel)
  · rw [show nI (kw_d kN 3) = (-1162945306) from by decide +kernel]
    exact hs (Cond.eq (.elem (.static "KeyCurveModel" "N" "[I") (.int 3)) (.int (-1162945306))) (by decide +kernel)
  · rw [show nI (kw_d kN 4) = (-2) from by decide +kernel]
    exact hs (Cond.eq (.elem (.static "KeyCurveModel" "N" "[I") (.int 4)) (.int (-2))) (by decide +kernel)
  · rw [show nI (kw_d kN 5) = (-1) from by decide +kernel]
    exact hs (Cond.eq (.elem (.static "KeyCurveModel" "N" "[I") (.int 5)) (.int (-1))) (by decide +kernel)
  · rw [show nI (kw_d kN 6) = (-1) from by decide +kernel]
    exact hs (Cond.eq (.elem (.static "KeyCurveModel" "N" "[I") (.int 6)) (.int (-1))) (by decide +kernel)
  · rw [show nI (kw_d kN 7) = (-1) from by decide +kernel]
    exact hs (Cond.eq (.elem (.static "KeyCurveModel" "N" "[I") (.int 7)) (.int (-1))) (by decide +kernel)
theorem ks_I_GX {s : State} {b o : Nat} (ho : s.heap.size = o) (hts0 : ∀ w ∈ lw_tbl, w.before #[Value.ref b] s = true) (hgv : (Jvm.Cond.and given_1 narrow_1).before #[Value.ref b] s = true) : ∃ t : Nat, t < o ∧ va_Z "KeyCurveModel" "GX" "[I" (.ref t) (fun q => o ≤ q) s s.heap ∧ kq_sI s s.heap t 8 kX_G := by
  have hs := flat_of_before _ hgv
  refine kl_stI (args := #[Value.ref b]) ho (hs _ (by decide +kernel)) (hs _ (by decide +kernel)) (fun j hj => ?_) (hts0 _ (List.mem_of_getElem? (i := 559) (by decide +kernel))) (hts0 _ (List.mem_of_getElem? (i := 27) (by decide +kernel)))
  rcases (show j = 0 ∨ j = 1 ∨ j = 2 ∨ j = 3 ∨ j = 4 ∨ j = 5 ∨ j = 6 ∨ j = 7 by omega) with rfl | rfl | rfl | rfl | rfl | rfl | rfl | rfl
  · rw [show nI (kw_d kX_G 0) = (385357720) from by decide +kernel]
    exact hs (Cond.eq (.elem (.static "KeyCurveModel" "GX" "[I") (.int 0)) (.int (385357720))) (by decide +kernel)
  · rw [show nI (kw_d kX_G 1) = (1509065051) from by decide +kernel]
    exact hs (Cond.eq (.elem (.static "KeyCurveModel" "GX" "[I") (.int 1)) (.int (1509065051))) (by decide +kernel)
  · rw [show nI (kw_d kX_G 2) = (768485593) from by decide +kernel]
    exact hs (Cond.eq (.elem (.static "KeyCurveModel" "GX" "[I") (.int 2)) (.int (768485593))) (by decide +kernel)
  · rw [show nI (kw_d kX_G 3) = (43777243) from by decide +kernel]
    exact hs (Cond.eq (.elem (.static "KeyCurveModel" "GX" "[I") (.int 3)) (.int (43777243))) (by decide +kernel)
  · rw [show nI (kw_d kX_G 4) = (-830010617) from by decide +kernel]
    exact hs (Cond.eq (.elem (.static "KeyCurveModel" "GX" "[I") (.int 4)) (.int (-830010617))) (by decide +kernel)
  · rw [show nI (kw_d kX_G 5) = (1436574357) from by decide +kernel]
    exact hs (Cond.eq (.elem (.static "KeyCurveModel" "GX" "[I") (.int 5)) (.int (1436574357))) (by decide +kernel)
  · rw [show nI (kw_d kX_G 6) = (-102974548) from by decide +kernel]
    exact hs (Cond.eq (.elem (.static "KeyCurveModel" "GX" "[I") (.int 6)) (.int (-102974548))) (by decide +kernel)
  · rw [show nI (kw_d kX_G 7) = (2042521214) from by decide +kernel]
    exact hs (Cond.eq (.elem (.static "KeyCurveModel" "GX" "[I") (.int 7)) (.int (2042521214))) (by decide +kernel)
theorem ks_I_GY {s : State} {b o : Nat} (ho : s.heap.size = o) (hts0 : ∀ w ∈ lw_tbl, w.before #[Value.ref b] s = true) (hgv : (Jvm.Cond.and given_1 narrow_1).before #[Value.ref b] s = true) : ∃ t : Nat, t < o ∧ va_Z "KeyCurveModel" "GY" "[I" (.ref t) (fun q => o ≤ q) s s.heap ∧ kq_sI s s.heap t 8 kY_G := by
  have hs := flat_of_before _ hgv
  refine kl_stI (args := #[Value.ref b]) ho (hs _ (by decide +kernel)) (hs _ (by decide +kernel)) (fun j hj => ?_) (hts0 _ (List.mem_of_getElem? (i := 561) (by decide +kernel))) (hts0 _ (List.mem_of_getElem? (i := 27) (by decide +kernel)))
  rcases (show j = 0 ∨ j = 1 ∨ j = 2 ∨ j = 3 ∨ j = 4 ∨ j = 5 ∨ j = 6 ∨ j = 7 by omega) with rfl | rfl | rfl | rfl | rfl | rfl | rfl | rfl
  · rw [show nI (kw_d kY_G 0) = (-82783048) from by decide +kernel]
    exact hs (Cond.eq (.elem (.static "KeyCurveModel" "GY" "[I") (.int 0)) (.int (-82783048))) (by decide +kernel)
  · rw [show nI (kw_d kY_G 1) = (-1673015153) from by decide +kernel]
    exact hs (Cond.eq (.elem (.static "KeyCurveModel" "GY" "[I") (.int 1)) (.int (-1673015153))) (by decide +kernel)
  · rw [show nI (kw_d kY_G 2) = (-1501211623) from by decide +kernel]
    exact hs (Cond.eq (.elem (.static "KeyCurveModel" "GY" "[I") (.int 2)) (.int (-1501211623))) (by decide +kernel)
  · rw [show nI (kw_d kY_G 3) = (-48778168) from by decide +kernel]
    exact hs (Cond.eq (.elem (.static "KeyCurveModel" "GY" "[I") (.int 3)) (.int (-48778168))) (by decide +kernel)
  · rw [show nI (kw_d kY_G 4) = (235997352) from by decide +kernel]
    exact hs (Cond.eq (.elem (.static "KeyCurveModel" "GY" "[I") (.int 4)) (.int (235997352))) (by decide +kernel)
  · rw [show nI (kw_d kY_G 5) = (1571093500) from by decide +kernel]
    exact hs (Cond.eq (.elem (.static "KeyCurveModel" "GY" "[I") (.int 5)) (.int (1571093500))) (by decide +kernel)
  · rw [show nI (kw_d kY_G 6) = (648266853) from by decide +kernel]
    exact hs (Cond.eq (.elem (.static "KeyCurveModel" "GY" "[I") (.int 6)) (.int (648266853))) (by decide +kernel)
  · rw [show nI (kw_d kY_G 7) = (1211816567) from by decide +kernel]
    exact hs (Cond.eq (.elem (.static "KeyCurveModel" "GY" "[I") (.int 7)) (.int (1211816567))) (by decide +kernel)
