/-! The wb_ rows: pasted from the kit (laws/BITS.to-paste), as it allows. -/
/-! ===== lN n to 2^64: shifts, and, or, masks, one bit ===== -/
theorem wb_tb (n : Nat) : (lN n).toBitVec = BitVec.ofNat 64 n := rfl
theorem wb_inj {a b : Int64} (h : a.toBitVec = b.toBitVec) : a = b := Int64.toBitVec_inj.mp h
theorem wb_tn {n : Nat} (h : n < 2 ^ 64) : (lN n).toBitVec.toNat = n := by rw [wb_tb, BitVec.toNat_ofNat, Nat.mod_eq_of_lt h]
theorem wb_of (x : Int64) : ∃ n, n < 2 ^ 64 ∧ x = lN n := ⟨x.toBitVec.toNat, x.toBitVec.isLt, wb_inj (by rw [wb_tb]; simp)⟩
theorem wb_of32 (x : Int32) : ∃ n, n < 2 ^ 32 ∧ x = nI n := ⟨x.toBitVec.toNat, x.toBitVec.isLt, Int32.toBitVec_inj.mp (by show _ = BitVec.ofNat 32 _; simp)⟩
theorem wb_c : ∀ k, k < 64 → ((nI k).toInt64 &&& 63) = lN k := by decide +kernel
theorem wb_cu : ∀ k, k < 64 → ((nI k).toInt64.toUInt64 &&& Int64.toUInt64 63) = UInt64.ofNat k := by decide +kernel
theorem wb_sm : ∀ k, k < 64 → (BitVec.ofNat 64 k).smod 64 = BitVec.ofNat 64 k := by decide +kernel
theorem wb_pw {a b : Nat} (h : a ≤ b) : 2 ^ b = 2 ^ a * 2 ^ (b - a) := by rw [← Nat.pow_add]; congr 1; omega
theorem wb_lt2 {a b : Nat} (h : a < b) : 2 ^ a < 2 ^ b := Nat.pow_lt_pow_right (by decide) h
theorem wb_mod (n : Nat) : lN n = lN (n % 2 ^ 64) := wb_inj (by rw [wb_tb, wb_tb]; apply BitVec.eq_of_toNat_eq; rw [BitVec.toNat_ofNat, BitVec.toNat_ofNat, Nat.mod_mod])
theorem wb_shr {n k : Nat} (hn : n < 2 ^ 64) (hk : k < 64) : ((lN n).toUInt64 >>> ((nI k).toInt64.toUInt64 &&& Int64.toUInt64 63)).toInt64 = lN (n / 2 ^ k) := by
  rw [wb_cu k hk]
  apply wb_inj
  apply BitVec.eq_of_toNat_eq
  show ((lN n).toUInt64 >>> UInt64.ofNat k).toNat = (BitVec.ofNat 64 _).toNat
  have h1 : (UInt64.ofNat k).toNat = k := by
    show (BitVec.ofNat 64 k).toNat = k
    rw [BitVec.toNat_ofNat, Nat.mod_eq_of_lt (by omega)]
  have h2 : (lN n).toUInt64.toNat = n := wb_tn hn
  rw [UInt64.toNat_shiftRight, h1, h2, Nat.mod_eq_of_lt hk, Nat.shiftRight_eq_div_pow, BitVec.toNat_ofNat, Nat.mod_eq_of_lt (Nat.lt_of_le_of_lt (Nat.div_le_self _ _) hn)]
theorem wb_shl (n : Nat) {k : Nat} (hk : k < 64) : lN n <<< ((nI k).toInt64 &&& 63) = lN (n * 2 ^ k) := by
  rw [wb_c k hk]
  apply wb_inj
  rw [Int64.toBitVec_shiftLeft, wb_tb, wb_tb, wb_tb, wb_sm k hk]
  apply BitVec.eq_of_toNat_eq
  rw [BitVec.shiftLeft_eq', BitVec.toNat_shiftLeft, BitVec.toNat_ofNat, BitVec.toNat_ofNat, BitVec.toNat_ofNat, Nat.mod_eq_of_lt (show k < 2 ^ 64 by omega), Nat.shiftLeft_eq, Nat.mul_mod, Nat.mod_mod, ← Nat.mul_mod]
theorem wb_and {a b : Nat} (ha : a < 2 ^ 64) (hb : b < 2 ^ 64) : lN a &&& lN b = lN (a &&& b) := by
  apply wb_inj
  rw [Int64.toBitVec_and, wb_tb, wb_tb, wb_tb]
  apply BitVec.eq_of_toNat_eq
  rw [BitVec.toNat_and, BitVec.toNat_ofNat, BitVec.toNat_ofNat, BitVec.toNat_ofNat, Nat.mod_eq_of_lt ha, Nat.mod_eq_of_lt hb, Nat.mod_eq_of_lt (Nat.and_lt_two_pow _ hb)]
theorem wb_or {a b : Nat} (ha : a < 2 ^ 64) (hb : b < 2 ^ 64) : lN a ||| lN b = lN (a ||| b) := by
  apply wb_inj
  rw [Int64.toBitVec_or, wb_tb, wb_tb, wb_tb]
  apply BitVec.eq_of_toNat_eq
  rw [BitVec.toNat_or, BitVec.toNat_ofNat, BitVec.toNat_ofNat, BitVec.toNat_ofNat, Nat.mod_eq_of_lt ha, Nat.mod_eq_of_lt hb, Nat.mod_eq_of_lt (Nat.or_lt_two_pow ha hb)]
theorem wb_mask {n k : Nat} (hn : n < 2 ^ 64) (hk : k < 64) : lN n &&& lN (2 ^ k - 1) = lN (n % 2 ^ k) := by
  rw [wb_and hn (by have := wb_lt2 hk; omega), Nat.and_two_pow_sub_one_eq_mod]
theorem wb_a1 {n : Nat} (hn : n < 2 ^ 64) : lN n &&& 1 = lN (n % 2) := wb_mask (k := 1) hn (by decide)
theorem wb_bit {n k : Nat} (hn : n < 2 ^ 64) (hk : k < 64) : ((lN n).toUInt64 >>> ((nI k).toInt64.toUInt64 &&& Int64.toUInt64 63)).toInt64 &&& 1 = lN (n / 2 ^ k % 2) := by
  rw [wb_shr hn hk, wb_a1 (Nat.lt_of_le_of_lt (Nat.div_le_self _ _) hn)]
/-! Rows of words in the heap, and the machine's rules over them (own rows). -/
theorem kq_lsub {a b : Nat} (hb : b ≤ 18446744073709551616) : lN a - lN b = lN (a + 18446744073709551616 - b) := by
  apply wb_inj
  rw [Int64.toBitVec_sub, wb_tb, wb_tb, wb_tb]
  apply BitVec.eq_of_toNat_eq
  rw [BitVec.toNat_sub, BitVec.toNat_ofNat, BitVec.toNat_ofNat, BitVec.toNat_ofNat]
  omega
theorem kq_mask (n : Nat) : lN n &&& lN 4294967295 = lN (n % 4294967296) := by
  rw [wb_mod n]
  have h := wb_mask (n := n % 2 ^ 64) (k := 32) (Nat.mod_lt _ (by decide)) (by decide)
  rw [show (4294967295 : Nat) = 2 ^ 32 - 1 by decide, h]
  congr 1
  omega
theorem kq_ushr32 {n : Nat} (hn : n < 18446744073709551616) : ((lN n).toUInt64 >>> ((nI 32).toInt64.toUInt64 &&& Int64.toUInt64 63)).toInt64 = lN (n / 4294967296) := wb_shr (k := 32) (by omega) (by decide)
theorem kq_ushr63 {n : Nat} (hn : n < 18446744073709551616) : ((lN n).toUInt64 >>> ((nI 63).toInt64.toUInt64 &&& Int64.toUInt64 63)).toInt64 = lN (n / 9223372036854775808) := wb_shr (k := 63) (by omega) (by decide)
theorem kq_cmp_eq {a b : Nat} (ha : a < 9223372036854775808) (hb : b < 9223372036854775808) : lg_cmp (lN a) (lN b) = 0 ↔ a = b := by
  unfold lg_cmp
  have h1 := pk_lLT (a := b) (b := a) (by omega) (by omega)
  have h2 := pk_lEQ (a := a) (b := b) (by omega) (by omega)
  by_cases h : b < a
  · rw [if_pos (show lN a > lN b from h1.mpr h)]
    exact ⟨fun q => absurd q (by decide), fun q => by omega⟩
  · rw [if_neg (show ¬ lN a > lN b from fun q => h (h1.mp q))]
    by_cases h3 : a = b
    · rw [if_pos (h2.mpr h3)]
      exact ⟨fun _ => h3, fun _ => rfl⟩
    · rw [if_neg (fun q => h3 (h2.mp q))]
      exact ⟨fun q => absurd q (by decide), fun q => absurd q h3⟩
theorem kq_cmp_lt {a b : Nat} (ha : a < 9223372036854775808) (hb : b < 9223372036854775808) : lg_cmp (lN a) (lN b) < 0 ↔ a < b := by
  unfold lg_cmp
  have h1 := pk_lLT (a := b) (b := a) (by omega) (by omega)
  have h2 := pk_lEQ (a := a) (b := b) (by omega) (by omega)
  by_cases h : b < a
  · rw [if_pos (show lN a > lN b from h1.mpr h)]
    exact ⟨fun q => absurd q (by decide), fun q => by omega⟩
  · rw [if_neg (show ¬ lN a > lN b from fun q => h (h1.mp q))]
    by_cases h3 : a = b
    · rw [if_pos (h2.mpr h3)]
      exact ⟨fun q => absurd q (by decide), fun q => by omega⟩
    · rw [if_neg (fun q => h3 (h2.mp q))]
      exact ⟨fun _ => by omega, fun _ => by decide⟩
/-- a boolean answer -/
def kq_z (b : Bool) : Int32 := if b = true then 1 else 0
/-- a row of n words, as longs and as ints -/
def kq_L (c : ClassId) (n V : Nat) : Cell := arrV c n (fun j => .long (lN (kw_d V j)))
def kq_I (c : ClassId) (n V : Nat) : Cell := arrV c n (fun j => .int (nI (kw_d V j)))
/-- an array that is read: its first n places hold f -/
def kq_r (U : State) (ty : FieldType) (H : Heap) (a n : Nat) (f : Nat → Value) : Prop := ∃ cell : Cell, H[a]? = some cell ∧ U.isArrayOf cell ty ∧ cell.vm ≠ .unknown ∧ n ≤ cell.slots.size ∧ ∀ j : Nat, j < n → cell.slots[j]? = some (f j)
abbrev kq_sL (U : State) (H : Heap) (a n V : Nat) : Prop := kq_r U .long H a n (fun j => .long (lN (kw_d V j)))
abbrev kq_sI (U : State) (H : Heap) (a n V : Nat) : Prop := kq_r U .int H a n (fun j => .int (nI (kw_d V j)))
/-- the heap with one cell put anew -/
def kq_set (H : Heap) (a : Nat) (x : Cell) : Heap := H.setIfInBounds a x
theorem kq_set_size (H : Heap) (a : Nat) (x : Cell) : (kq_set H a x).size = H.size := by simp [kq_set]
theorem kq_lt {H : Heap} {a : Nat} {x : Cell} (h : H[a]? = some x) : a < H.size := (Array.getElem?_eq_some_iff.mp h).1
theorem kq_set_at {H : Heap} {a : Nat} {x y : Cell} (h : H[a]? = some y) : (kq_set H a x)[a]? = some x := by
  unfold kq_set
  rw [Array.getElem?_setIfInBounds, if_pos rfl, if_pos (kq_lt h)]
theorem kq_set_ne {H : Heap} {a q : Nat} {x : Cell} (h : q ≠ a) : (kq_set H a x)[q]? = H[q]? := by
  unfold kq_set
  rw [Array.getElem?_setIfInBounds, if_neg (Ne.symm h)]
theorem kq_set_set (H : Heap) (a : Nat) (x y : Cell) : kq_set (kq_set H a x) a y = kq_set H a y := by
  unfold kq_set
  exact Array.setIfInBounds_setIfInBounds _
theorem kq_set_self {H : Heap} {a : Nat} {x : Cell} (h : H[a]? = some x) : kq_set H a x = H := by
  apply Array.ext_getElem?
  intro q
  by_cases e : q = a
  · subst e
    rw [kq_set_at h, h]
  · rw [kq_set_ne e]
theorem kq_is_set {H H1 : Heap} {a : Nat} {x y : Cell} (h : H[a]? = some y) (h1 : H1[a]? = some x) (ho : ∀ q : Nat, q ≠ a → H1[q]? = H[q]?) : H1 = kq_set H a x := by
  apply Array.ext_getElem?
  intro q
  by_cases e : q = a
  · subst e
    rw [kq_set_at h, h1]
  · rw [kq_set_ne e, ho q e]
theorem kq_lN_inj {a b : Nat} (ha : a < 4294967296) (hb : b < 4294967296) (h : lN a = lN b) : a = b := (pk_lEQ (by omega) (by omega)).mp h
theorem kq_nI_inj {a b : Nat} (ha : a < 4294967296) (hb : b < 4294967296) (h : nI a = nI b) : a = b := by
  have h1 := pk_tn (n := a) (by omega)
  have h2 := pk_tn (n := b) (by omega)
  rw [h] at h1
  omega
theorem kq_r.moved {u U : State} {ty : FieldType} {H : Heap} {a n : Nat} {f : Nat → Value} (hvm : u.vm.Alike U.vm) (h : kq_r u ty H a n f) : kq_r U ty H a n f := by
  obtain ⟨cell, h1, h2, h3⟩ := h
  exact ⟨cell, h1, State.isArrayOf_alike hvm h2, h3⟩
theorem kq_r.other {U : State} {ty : FieldType} {H H1 : Heap} {a n : Nat} {f : Nat → Value} (h : kq_r U ty H a n f) (e : H1[a]? = H[a]?) : kq_r U ty H1 a n f := by
  obtain ⟨cell, h1, h2⟩ := h
  exact ⟨cell, by rw [e]; exact h1, h2⟩
theorem kq_r.fewer {U : State} {ty : FieldType} {H : Heap} {a n k : Nat} {f : Nat → Value} (h : kq_r U ty H a n f) (hk : k ≤ n) : kq_r U ty H a k f := by
  obtain ⟨cell, h1, h2, h3, h4, h5⟩ := h
  exact ⟨cell, h1, h2, h3, by omega, fun j hj => h5 j (by omega)⟩
theorem kq_r.ofV {U : State} {ty : FieldType} {H : Heap} {a n : Nat} {c : ClassId} {f : Nat → Value} (hT : ArrOfT U c ty) (h : H[a]? = some (arrV c n f)) : kq_r U ty H a n f :=
  ⟨arrV c n f, h, hT n f, (fun q => by cases q), (by rw [arrV_size]; exact Nat.le_refl n), fun j hj => arrV_read c f hj⟩
theorem kq_r.sameL {U : State} {H : Heap} {a n n1 V V1 : Nat} {c : ClassId} (h : kq_sL U H a n V) (h1 : H[a]? = some (kq_L c n1 V1)) {j : Nat} (hj : j < n) : kw_d V j = kw_d V1 j := by
  obtain ⟨cell, g1, g2, g3, g4, g5⟩ := h
  rw [h1] at g1
  obtain rfl := Option.some.inj g1
  have e := g5 j hj
  have hs : (kq_L c n1 V1).slots.size = n1 := arrV_size c n1 _
  have hr : (kq_L c n1 V1).slots[j]? = some (.long (lN (kw_d V1 j))) := arrV_read c _ (by omega)
  rw [hr] at e
  have e2 := Option.some.inj e
  injection e2 with e3
  exact (kq_lN_inj (kw_d_lt _ _) (kw_d_lt _ _) e3).symm
theorem kq_r.sameI {U : State} {H : Heap} {a n n1 V V1 : Nat} {c : ClassId} (h : kq_sI U H a n V) (h1 : H[a]? = some (kq_I c n1 V1)) {j : Nat} (hj : j < n) : kw_d V j = kw_d V1 j := by
  obtain ⟨cell, g1, g2, g3, g4, g5⟩ := h
  rw [h1] at g1
  obtain rfl := Option.some.inj g1
  have e := g5 j hj
  have hs : (kq_I c n1 V1).slots.size = n1 := arrV_size c n1 _
  have hr : (kq_I c n1 V1).slots[j]? = some (.int (nI (kw_d V1 j))) := arrV_read c _ (by omega)
  rw [hr] at e
  have e2 := Option.some.inj e
  injection e2 with e3
  exact (kq_nI_inj (kw_d_lt _ _) (kw_d_lt _ _) e3).symm
theorem kq_L_put (c : ClassId) (n V k : Nat) {x : Nat} (hx : x < 4294967296) : arrV c n (updV (fun j => .long (lN (kw_d V j))) k (.long (lN x))) = kq_L c n (kw_s V k x) := by
  unfold kq_L
  congr 1
  funext j
  by_cases e : j = k
  · subst e
    rw [kw_d_ws_same _ _ hx]
    simp [updV]
  · rw [kw_d_ws_ne _ hx e]
    simp [updV, e]
theorem kq_I_put (c : ClassId) (n V k : Nat) {x : Nat} (hx : x < 4294967296) : arrV c n (updV (fun j => .int (nI (kw_d V j))) k (.int (nI x))) = kq_I c n (kw_s V k x) := by
  unfold kq_I
  congr 1
  funext j
  by_cases e : j = k
  · subst e
    rw [kw_d_ws_same _ _ hx]
    simp [updV]
  · rw [kw_d_ws_ne _ hx e]
    simp [updV, e]
theorem kq_arrV_congr {c : ClassId} {n : Nat} {f g : Nat → Value} (h : ∀ j, j < n → f j = g j) : arrV c n f = arrV c n g := by
  unfold arrV
  have e : (fun j : Fin n => f j.val) = (fun j : Fin n => g j.val) := funext (fun j => h j.val j.isLt)
  rw [e]
theorem kq_L_mod (c : ClassId) (n V : Nat) : kq_L c n (V % kw_M n) = kq_L c n V := kq_arrV_congr (fun j hj => by rw [kw_d_mod hj])
theorem kq_I_mod (c : ClassId) (n V : Nat) : kq_I c n (V % kw_M n) = kq_I c n V := kq_arrV_congr (fun j hj => by rw [kw_d_mod hj])
theorem kq_inc (i : Nat) : nI i + Int32.ofInt 1 = nI (i + 1) := by
  rw [show Int32.ofInt 1 = 1 by decide]
  exact nI_1 i
theorem kq_dec (i : Nat) : nI (i + 1) + Int32.ofInt (-1) = nI i := by
  rw [show Int32.ofInt (-1) = -1 by decide]
  exact pk_m1 i
/-- a row that is read while row r is being written from below: word i is still its own -/
theorem kq_mixL {U : State} {H : Heap} {a r n A R0 V i : Nat} {c : ClassId} (hs : kq_sL U H a n A) (hT : ArrOfT U c .long) (hr : H[r]? = some (kq_L c n R0)) (hV : ∀ j, i ≤ j → j < n → kw_d V j = kw_d R0 j) (hi : i < n) :
    ∃ f, kq_r U .long (kq_set H r (kq_L c n V)) a n f ∧ f i = .long (lN (kw_d A i)) := by
  by_cases e : a = r
  · subst e
    refine ⟨_, kq_r.ofV hT (kq_set_at hr), ?_⟩
    show Value.long (lN (kw_d V i)) = _
    rw [hV i (Nat.le_refl i) hi, hs.sameL hr hi]
  · exact ⟨_, hs.other (kq_set_ne e), rfl⟩
theorem kq_mixI {U : State} {H : Heap} {a r n A R0 V i : Nat} {c : ClassId} (hs : kq_sI U H a n A) (hT : ArrOfT U c .int) (hr : H[r]? = some (kq_I c n R0)) (hV : ∀ j, i ≤ j → j < n → kw_d V j = kw_d R0 j) (hi : i < n) :
    ∃ f, kq_r U .int (kq_set H r (kq_I c n V)) a n f ∧ f i = .int (nI (kw_d A i)) := by
  by_cases e : a = r
  · subst e
    refine ⟨_, kq_r.ofV hT (kq_set_at hr), ?_⟩
    show Value.int (nI (kw_d V i)) = _
    rw [hV i (Nat.le_refl i) hi, hs.sameI hr hi]
  · exact ⟨_, hs.other (kq_set_ne e), rfl⟩
theorem kq_runV {cell : Cell} {c1 : ClassId} {n k : Nat} {f g : Nat → Value} (h : ∀ j, j < k → cell.slots[j]? = some (f j)) : (arrV c1 n g).storeRun 0 (cell.stretch 0 k) = arrV c1 n (fun j => if j < k then f j else g j) := by
  have e : cell.stretch 0 k = (List.range k).map f := by
    unfold Cell.stretch
    apply List.map_congr_left
    intro i hi
    have hi' := List.mem_range.mp hi
    rw [Array.getD_eq_getD_getElem?, Nat.zero_add, h i hi']
    rfl
  rw [e, Cell.storeRun, va_pairs]
  congr 1
  funext j
  simp only [List.length_map, List.length_range, Nat.add_zero, Nat.zero_add]
  by_cases hj : j < k
  · rw [if_pos ⟨Nat.zero_le j, hj⟩, if_pos hj, List.getD_eq_getElem?_getD, List.getElem?_map, Nat.sub_zero, List.getElem?_range hj]
    rfl
  · rw [if_neg (fun q => hj q.2), if_neg hj]
/-- what is said of a state by its tables alone -/
def kq_st (B : State → Prop) : Prop := ∀ u U : State, u.vm.Alike U.vm → B u → B U
theorem kq_st.both {B C : State → Prop} (h : kq_st B) (g : kq_st C) : kq_st (fun U => B U ∧ C U) := fun u U hv q => ⟨h u U hv q.1, g u U hv q.2⟩
theorem kq_st_r {ty : FieldType} {H : Heap} {a n : Nat} {f : Nat → Value} : kq_st (fun U => kq_r U ty H a n f) := fun _ _ hv q => q.moved hv
theorem kq_st_A {c : ClassId} {ty : FieldType} : kq_st (fun U => ArrOfT U c ty) := fun _ _ hv q => arrOfT_moved hv q
theorem kq_st_p {P : Prop} : kq_st (fun _ => P) := fun _ _ _ q => q
/-- a contract's start: the arguments, the heap, and what the tables say -/
def kq_P (av : List Value) (H : Heap) (B : State → Prop) : Array Value → State → Prop := va_Pc av (fun U => U.heap = H ∧ B U)
/-- a contract's end: the answer and the heap -/
def kq_Q (post : Option Value → Heap → Prop) : Array Value → State → Outcome → State → Prop := fun _ _ o t => ∃ v : Option Value, o = .returned v ∧ post v t.heap
theorem kq_preS {s : State} {H : Heap} {As : List Value} {B : State → Prop} (hB : kq_st B) (h : B s) : PreS s H (kq_P As H B) As :=
  ⟨fun _ U _ _ q => ⟨q.1, q.2.1, hB U _ (Vm.Alike.refl U.vm) q.2.2⟩, fun U hU hW => ⟨rfl, hU, hB s U hW.alike h⟩⟩
theorem kq_preV {s : State} {H : Heap} {C : String} {b : Addr} {As : List Value} {B : State → Prop} (hB : kq_st B) (h : B s) (hc : ∃ cellB : Cell, H[b]? = some cellB ∧ cellB.vm.isStatics = false ∧ s.vm.findClass C = some cellB.cls) : PreV s H C b (kq_P (.ref b :: As) H B) As :=
  ⟨fun _ U _ _ q => ⟨q.1, q.2.1, hB U _ (Vm.Alike.refl U.vm) q.2.2⟩, hc, fun U hU hW => ⟨rfl, hU, hB s U hW.alike h⟩⟩
section KQ
variable {p : Program} {l : Launch} {e : Env} {R : Room} {s : State} {m : MethodId} {args : Array Value} {below : List Frame} {meth : Method} {c : Code} {H : Heap} {locs : List Loc} {cells slots : Nat} {Q : State → Prop}
variable {cc : ByteArray} {pc : Nat} {ls : Array Slot} {rest : List Value}
theorem kq_ri {x y : Int32} (h : x = y) (k : W p l e R s m args below meth c H locs cells slots Q (F0 m pc ls (.int y :: rest))) : W p l e R s m args below meth c H locs cells slots Q (F0 m pc ls (.int x :: rest)) := h ▸ k
theorem kq_rl {x y : Int64} (h : x = y) (k : W p l e R s m args below meth c H locs cells slots Q (F0 m pc ls (.long y :: rest))) : W p l e R s m args below meth c H locs cells slots Q (F0 m pc ls (.long x :: rest)) := h ▸ k
theorem kq_rH {H1 : Heap} {g : JFrame} (h : H = H1) (k : W p l e R s m args below meth c H1 locs cells slots Q g) : W p l e R s m args below meth c H locs cells slots Q g := h ▸ k
theorem kq_in {n j : Nat} (hj : j < n) (hn : n < 2147483648) {z : Nat} (hz : n ≤ z) : ¬ (nI j < 0 ∨ z ≤ (nI j).toNatClampNeg) := by
  intro q
  rcases q with q | q
  · exact nI_pos (by omega) q
  · rw [nI_clamp (by omega)] at q
    omega
theorem kq_lald (hexec : p.tables.exec = Jvm.exec) (hb : c.code = cc) {a n : Nat} {f : Nat → Value} (h : kq_r s .long H a n f) {j : Nat} (hj : j < n) (hn : n < 2147483648) {v : Value} (hv : f j = v) (hdg : decode cc pc = .ok (.laload, 1))
    (kk : W p l e R s m args below meth c H locs cells slots Q (F0 m (pc + 1) ls (v :: rest))) : W p l e R s m args below meth c H locs cells slots Q (F0 m pc ls (.int (nI j) :: .ref a :: rest)) := by
  obtain ⟨cell, h1, h2, h3, h4, h5⟩ := h
  exact W.lald (v := v) hexec hb h1 h2 h3 (kq_in hj hn h4) (by rw [nI_clamp (by omega), h5 j hj, hv]) rfl rfl hdg kk
theorem kq_iald (hexec : p.tables.exec = Jvm.exec) (hb : c.code = cc) {a n : Nat} {f : Nat → Value} (h : kq_r s .int H a n f) {j : Nat} (hj : j < n) (hn : n < 2147483648) {v : Value} (hv : f j = v) (hdg : decode cc pc = .ok (.iaload, 1))
    (kk : W p l e R s m args below meth c H locs cells slots Q (F0 m (pc + 1) ls (v :: rest))) : W p l e R s m args below meth c H locs cells slots Q (F0 m pc ls (.int (nI j) :: .ref a :: rest)) := by
  obtain ⟨cell, h1, h2, h3, h4, h5⟩ := h
  exact W.iald (v := v) hexec hb h1 h2 h3 (kq_in hj hn h4) (by rw [nI_clamp (by omega), h5 j hj, hv]) rfl rfl hdg kk
theorem kq_last (hexec : p.tables.exec = Jvm.exec) (hb : c.code = cc) {a n V : Nat} {cL : ClassId} (hT : ArrOfT s cL .long) (h : H[a]? = some (kq_L cL n V)) {j x : Nat} (hj : j < n) (hn : n < 2147483648) (hx : x < 4294967296) (hdg : decode cc pc = .ok (.lastore, 1))
    (kk : W p l e R s m args below meth c (kq_set H a (kq_L cL n (kw_s V j x))) (locs ++ [⟨a, j⟩]) cells slots Q (F0 m (pc + 1) ls rest)) : W p l e R s m args below meth c H locs cells slots Q (F0 m pc ls (.long (lN x) :: .int (nI j) :: .ref a :: rest)) := by
  have hsz : (kq_L cL n V).slots.size = n := arrV_size cL n _
  refine W.last hexec hb h (hT n _) (fun q => by cases q) (kq_in hj hn (by omega)) rfl rfl hdg (fun H1 e1 e2 e3 => ?_)
  rw [nI_clamp (by omega)] at e1 ⊢
  unfold kq_L at e1
  rw [arrV_store, kq_L_put cL n V j hx] at e1
  exact kq_rH (kq_is_set h e1 e3) kk
theorem kq_iast (hexec : p.tables.exec = Jvm.exec) (hb : c.code = cc) {a n V : Nat} {cL : ClassId} (hT : ArrOfT s cL .int) (h : H[a]? = some (kq_I cL n V)) {j x : Nat} (hj : j < n) (hn : n < 2147483648) (hx : x < 4294967296) (hdg : decode cc pc = .ok (.iastore, 1))
    (kk : W p l e R s m args below meth c (kq_set H a (kq_I cL n (kw_s V j x))) (locs ++ [⟨a, j⟩]) cells slots Q (F0 m (pc + 1) ls rest)) : W p l e R s m args below meth c H locs cells slots Q (F0 m pc ls (.int (nI x) :: .int (nI j) :: .ref a :: rest)) := by
  have hsz : (kq_I cL n V).slots.size = n := arrV_size cL n _
  refine W.iast hexec hb h (hT n _) (fun q => by cases q) (kq_in hj hn (by omega)) rfl rfl hdg (fun H1 e1 e2 e3 => ?_)
  rw [nI_clamp (by omega)] at e1 ⊢
  unfold kq_I at e1
  rw [arrV_store, kq_I_put cL n V j hx] at e1
  exact kq_rH (kq_is_set h e1 e3) kk
theorem kq_call {st0 : List Value} {post : Option Value → Heap → Prop} {a : Array Value} {free : Addr → Prop} (hr : va_Run p l e R s m args below meth c H locs cells slots 0 0 (F0 m pc ls st0) rest (kq_Q post a) free)
    (kk : ∀ (v : Option Value) (H1 : Heap) (L : List Loc), post v H1 → (∀ q ∈ L, free q.base) → W p l e R s m args below meth c H1 (locs ++ L) cells slots Q (F0 m (pc + 3) ls (v.toList ++ rest))) : W p l e R s m args below meth c H locs cells slots Q (F0 m pc ls st0) := by
  intro T hT X
  obtain ⟨v, st₀, t, T', L, h0, X', hL, e1, e2, ⟨w, hw, hq⟩, st⟩ := hr T hT X
  cases hw
  obtain ⟨t2, a1, b1⟩ := kk v t.heap L hq hL T' e1 X'
  exact ⟨t2, st t2 a1, b1⟩
theorem kq_copyL (hexec : p.tables.exec = Jvm.exec) (hb : c.code = cc) (hml : c.maxLocals = ls.size) {own : String} {index : Nat} (hown : s.vm.findClass own = some m.cls) (hlink : (Cond.methodLink own index arraycopyName).before args s = true) (hnat : (Cond.native arraycopyName).before args s = true) (hstat : (Cond.static arraycopyName).before args s = true) (hini : (Cond.initialized "java/lang/System").before args s = true)
    {a r V R0 : Nat} {c1 : ClassId} (h : kq_sL s H a 8 V) (hT : ArrOfT s c1 .long) (hr : H[r]? = some (kq_L c1 8 R0)) (hframes : 1 ≤ R.frames) (hlocals : (rest.map fun v => v.category).sum + (nativeFrameWords "java/lang/System" "arraycopy" 5 + 11) ≤ R.locals) (hdg : decode cc pc = .ok (.invokestatic index, 3))
    (kk : ∀ L : List Loc, (∀ q ∈ L, q.base = r) → W p l e R s m args below meth c (kq_set H r (kq_L c1 8 V)) (locs ++ L) cells slots Q (F0 m (pc + 3) ls rest)) : W p l e R s m args below meth c H locs cells slots Q (F0 m pc ls (.int (nI 8) :: .int (nI 0) :: .ref r :: .int (nI 0) :: .ref a :: rest)) := by
  obtain ⟨cell, g1, ⟨g2, k0, hk0, cm0, hkk0⟩, g3, g4, g5⟩ := h
  obtain ⟨-, k1, hk1, cm1, hkk1⟩ := hT 8 (fun j => .long (lN (kw_d R0 j)))
  intro T hTh X
  have n8 : (nI 8).toNatClampNeg = 8 := nI_clamp (by decide)
  have n0 : (nI 0).toNatClampNeg = 0 := nI_clamp (by decide)
  have i8 : (nI 8).toInt = 8 := nI_toInt (n := 8) (by decide)
  have i0 : (nI 0).toInt = 0 := nI_toInt (n := 0) (by decide)
  have hsz : (kq_L c1 8 R0).slots.size = 8 := arrV_size c1 8 _
  obtain ⟨vm', X', step⟩ := X.arraycopy hexec hown hlink hnat hstat hini (src := a) (dst := r) (cs := cell) (cd := kq_L c1 8 R0) (srcPos := nI 0) (destPos := nI 0) (n := nI 8) (by rw [hTh]; exact g1) (by rw [hTh]; exact hr)
    g2 (fun _ h => by cases h) g3 (fun h => by cases h) hk0 hk1 hkk0 hkk1 (by decide) (nI_pos (by decide)) (nI_pos (by decide)) (nI_pos (by decide))
    (by rw [i0, i8]; omega) (by rw [i0, i8, hsz]; omega)
    (fun vm₁ _ i hi => by
      rw [n8] at hi
      have e : cell.slots.getD ((nI 0).toNatClampNeg + i) .null = .long (lN (kw_d V i)) := by
        rw [Array.getD_eq_getD_getElem?, n0, Nat.zero_add, g5 i hi]
        rfl
      rw [e]
      exact ⟨rfl, trivial⟩)
    (g := F0 m pc ls (.int (nI 8) :: .int (nI 0) :: .ref r :: .int (nI 0) :: .ref a :: rest)) rfl (by rw [hml]) (rest := rest) rfl (by rw [hb]; exact hdg) hframes (by show 2 * 0 + _ + _ ≤ _; omega)
  have e1 : copied cell (kq_L c1 8 R0) (nI 0) (nI 0) (nI 8) = kq_L c1 8 V := by
    show (kq_L c1 8 R0).storeRun (nI 0).toNatClampNeg (cell.stretch (nI 0).toNatClampNeg (nI 8).toNatClampNeg) = _
    rw [n0, n8]
    unfold kq_L
    rw [kq_runV g5]
    exact kq_arrV_congr (fun j hj => if_pos hj)
  rw [e1] at X' step
  have hheap : ((T.setVm vm').setCell r (kq_L c1 8 V)).heap = kq_set H r (kq_L c1 8 V) := by rw [← hTh]; rfl
  obtain ⟨t, a1, b1⟩ := kk _ (fun q hq => by
    obtain ⟨z, -, hz⟩ := List.mem_map.mp hq
    rw [← hz]) _ hheap X'
  exact ⟨t, step t a1, b1⟩
theorem kq_copyI (hexec : p.tables.exec = Jvm.exec) (hb : c.code = cc) (hml : c.maxLocals = ls.size) {own : String} {index : Nat} (hown : s.vm.findClass own = some m.cls) (hlink : (Cond.methodLink own index arraycopyName).before args s = true) (hnat : (Cond.native arraycopyName).before args s = true) (hstat : (Cond.static arraycopyName).before args s = true) (hini : (Cond.initialized "java/lang/System").before args s = true)
    {a r V R0 : Nat} {c1 : ClassId} (h : kq_sI s H a 8 V) (hT : ArrOfT s c1 .int) (hr : H[r]? = some (kq_I c1 8 R0)) (hframes : 1 ≤ R.frames) (hlocals : (rest.map fun v => v.category).sum + (nativeFrameWords "java/lang/System" "arraycopy" 5 + 11) ≤ R.locals) (hdg : decode cc pc = .ok (.invokestatic index, 3))
    (kk : ∀ L : List Loc, (∀ q ∈ L, q.base = r) → W p l e R s m args below meth c (kq_set H r (kq_I c1 8 V)) (locs ++ L) cells slots Q (F0 m (pc + 3) ls rest)) : W p l e R s m args below meth c H locs cells slots Q (F0 m pc ls (.int (nI 8) :: .int (nI 0) :: .ref r :: .int (nI 0) :: .ref a :: rest)) := by
  obtain ⟨cell, g1, ⟨g2, k0, hk0, cm0, hkk0⟩, g3, g4, g5⟩ := h
  obtain ⟨-, k1, hk1, cm1, hkk1⟩ := hT 8 (fun j => .int (nI (kw_d R0 j)))
  intro T hTh X
  have n8 : (nI 8).toNatClampNeg = 8 := nI_clamp (by decide)
  have n0 : (nI 0).toNatClampNeg = 0 := nI_clamp (by decide)
  have i8 : (nI 8).toInt = 8 := nI_toInt (n := 8) (by decide)
  have i0 : (nI 0).toInt = 0 := nI_toInt (n := 0) (by decide)
  have hsz : (kq_I c1 8 R0).slots.size = 8 := arrV_size c1 8 _
  obtain ⟨vm', X', step⟩ := X.arraycopy hexec hown hlink hnat hstat hini (src := a) (dst := r) (cs := cell) (cd := kq_I c1 8 R0) (srcPos := nI 0) (destPos := nI 0) (n := nI 8) (by rw [hTh]; exact g1) (by rw [hTh]; exact hr)
    g2 (fun _ h => by cases h) g3 (fun h => by cases h) hk0 hk1 hkk0 hkk1 (by decide) (nI_pos (by decide)) (nI_pos (by decide)) (nI_pos (by decide))
    (by rw [i0, i8]; omega) (by rw [i0, i8, hsz]; omega)
    (fun vm₁ _ i hi => by
      rw [n8] at hi
      have e : cell.slots.getD ((nI 0).toNatClampNeg + i) .null = .int (nI (kw_d V i)) := by
        rw [Array.getD_eq_getD_getElem?, n0, Nat.zero_add, g5 i hi]
        rfl
      rw [e]
      exact ⟨rfl, trivial⟩)
    (g := F0 m pc ls (.int (nI 8) :: .int (nI 0) :: .ref r :: .int (nI 0) :: .ref a :: rest)) rfl (by rw [hml]) (rest := rest) rfl (by rw [hb]; exact hdg) hframes (by show 2 * 0 + _ + _ ≤ _; omega)
  have e1 : copied cell (kq_I c1 8 R0) (nI 0) (nI 0) (nI 8) = kq_I c1 8 V := by
    show (kq_I c1 8 R0).storeRun (nI 0).toNatClampNeg (cell.stretch (nI 0).toNatClampNeg (nI 8).toNatClampNeg) = _
    rw [n0, n8]
    unfold kq_I
    rw [kq_runV g5]
    exact kq_arrV_congr (fun j hj => if_pos hj)
  rw [e1] at X' step
  have hheap : ((T.setVm vm').setCell r (kq_I c1 8 V)).heap = kq_set H r (kq_I c1 8 V) := by rw [← hTh]; rfl
  obtain ⟨t, a1, b1⟩ := kk _ (fun q hq => by
    obtain ⟨z, -, hz⟩ := List.mem_map.mp hq
    rw [← hz]) _ hheap X'
  exact ⟨t, step t a1, b1⟩
end KQ
