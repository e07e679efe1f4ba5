/-! KeyCurveModel: half (own rows). -/
theorem kw_half (X j : Nat) : kw_d (X / 2) j = kw_d X j / 2 + kw_d X (j + 1) % 2 * 2147483648 := by
  have e1 : X / 2 / kw_M j = X / kw_M j / 2 := by rw [Nat.div_div_eq_div_mul, Nat.mul_comm, ← Nat.div_div_eq_div_mul]
  have e2 : X / kw_M (j + 1) = X / kw_M j / 4294967296 := by rw [kw_M_s, Nat.div_div_eq_div_mul]
  unfold kw_d
  rw [e1, e2]
  generalize X / kw_M j = y
  omega
theorem kx_or {a b : Nat} (ha : a < 4294967296) (hb : b < 4294967296) : nI a ||| nI b = nI (a ||| b) := by
  apply Int32.toBitVec_inj.mp
  rw [Int32.toBitVec_or]
  apply BitVec.eq_of_toNat_eq
  rw [BitVec.toNat_or, kx_nt ha, kx_nt hb, kx_nt (Nat.or_lt_two_pow (n := 32) ha hb)]
theorem kx_shl31 {u : Nat} (h : u < 4294967296) : nI u <<< (nI 31 &&& 31) = nI (u % 2 * 2147483648) := by
  apply Int32.toBitVec_inj.mp
  apply BitVec.eq_of_toNat_eq
  rw [pk_shl (nI u) (nI 31 &&& 31) 31 (by decide +kernel), kx_nt h, kx_nt (by omega)]
  omega
theorem kx_word {w u : Nat} (hw : w < 4294967296) : nI (w / 2) ||| nI (u % 2 * 2147483648) = nI (w / 2 + u % 2 * 2147483648) := by
  rw [kx_or (by omega) (by omega)]
  congr 1
  have h := Nat.shiftLeft_add_eq_or_of_lt (i := 31) (b := w / 2) (show w / 2 < 2 ^ 31 by omega) (u % 2)
  rw [Nat.shiftLeft_eq] at h
  rw [Nat.or_comm, show (2147483648 : Nat) = 2 ^ 31 by decide, ← h]
  omega
theorem kx_ushr1 {w : Nat} (h : w < 4294967296) : ((nI w).toUInt32 >>> ((nI 1).toUInt32 &&& Int32.toUInt32 31)).toInt32 = nI (w / 2) := pk_ushrN (by omega) _ 1 (by decide +kernel)
theorem kw_top {A tp : Nat} (hA : A < kw_M 8) (ht : tp ≤ 1) : kw_d (A + kw_M 8 * tp) 8 = tp := by
  unfold kw_d
  rw [Nat.add_mul_div_left _ _ (kw_M_pos 8), Nat.div_eq_of_lt hA, Nat.zero_add, Nat.mod_eq_of_lt (by omega)]
theorem d_Mo_half_0 : decode b_Mo_half 0 = .ok (.iconst 0, 1) := by decide +kernel
theorem d_Mo_half_1 : decode b_Mo_half 1 = .ok (.istore_n 2, 1) := by decide +kernel
theorem d_Mo_half_2 : decode b_Mo_half 2 = .ok (.iload_n 2, 1) := by decide +kernel
theorem d_Mo_half_3 : decode b_Mo_half 3 = .ok (.bipush 8, 2) := by decide +kernel
theorem d_Mo_half_5 : decode b_Mo_half 5 = .ok (.if_icmp .ge 36, 3) := by decide +kernel
theorem d_Mo_half_8 : decode b_Mo_half 8 = .ok (.aload_n 0, 1) := by decide +kernel
theorem d_Mo_half_9 : decode b_Mo_half 9 = .ok (.iload_n 2, 1) := by decide +kernel
theorem d_Mo_half_10 : decode b_Mo_half 10 = .ok (.aload_n 0, 1) := by decide +kernel
theorem d_Mo_half_11 : decode b_Mo_half 11 = .ok (.iload_n 2, 1) := by decide +kernel
theorem d_Mo_half_12 : decode b_Mo_half 12 = .ok (.iaload, 1) := by decide +kernel
theorem d_Mo_half_13 : decode b_Mo_half 13 = .ok (.iconst 1, 1) := by decide +kernel
theorem d_Mo_half_14 : decode b_Mo_half 14 = .ok (.iushr, 1) := by decide +kernel
theorem d_Mo_half_15 : decode b_Mo_half 15 = .ok (.iload_n 2, 1) := by decide +kernel
theorem d_Mo_half_16 : decode b_Mo_half 16 = .ok (.bipush 7, 2) := by decide +kernel
theorem d_Mo_half_18 : decode b_Mo_half 18 = .ok (.if_icmp .ge 11, 3) := by decide +kernel
theorem d_Mo_half_21 : decode b_Mo_half 21 = .ok (.aload_n 0, 1) := by decide +kernel
theorem d_Mo_half_22 : decode b_Mo_half 22 = .ok (.iload_n 2, 1) := by decide +kernel
theorem d_Mo_half_23 : decode b_Mo_half 23 = .ok (.iconst 1, 1) := by decide +kernel
theorem d_Mo_half_24 : decode b_Mo_half 24 = .ok (.iadd, 1) := by decide +kernel
theorem d_Mo_half_25 : decode b_Mo_half 25 = .ok (.iaload, 1) := by decide +kernel
theorem d_Mo_half_26 : decode b_Mo_half 26 = .ok (.goto 4, 3) := by decide +kernel
theorem d_Mo_half_29 : decode b_Mo_half 29 = .ok (.iload_n 1, 1) := by decide +kernel
theorem d_Mo_half_30 : decode b_Mo_half 30 = .ok (.bipush 31, 2) := by decide +kernel
theorem d_Mo_half_32 : decode b_Mo_half 32 = .ok (.ishl, 1) := by decide +kernel
theorem d_Mo_half_33 : decode b_Mo_half 33 = .ok (.ior, 1) := by decide +kernel
theorem d_Mo_half_34 : decode b_Mo_half 34 = .ok (.iastore, 1) := by decide +kernel
theorem d_Mo_half_35 : decode b_Mo_half 35 = .ok (.iinc 2 1, 3) := by decide +kernel
theorem d_Mo_half_38 : decode b_Mo_half 38 = .ok (.goto (-36), 3) := by decide +kernel
theorem d_Mo_half_41 : decode b_Mo_half 41 = .ok (.return_, 1) := by decide +kernel
section
variable {p : Program} {l : Launch} {e : Env} {R : Room} {s : State} {m : MethodId} {args : Array Value} {below : List Frame} {meth : Method} {c : Code} {cells slots : Nat} {Q : State → Prop}
set_option maxHeartbeats 4000000 in
set_option maxRecDepth 100000 in
theorem lp_Mo_half (hx : p.tables.exec = Jvm.exec) (hb : c.code = b_Mo_half) {cI : ClassId} {H : Heap} {a A tp : Nat} (hT : ArrOfT s cI .int) (hr : H[a]? = some (kq_I cI 8 A)) (hA : A < kw_M 8) (htp : tp ≤ 1)
    (kk : ∀ (V : Nat) (ls : Array Slot) (locs : List Loc), V < kw_M 8 → (∀ j, j < 8 → kw_d V j = kw_d ((A + kw_M 8 * tp) / 2) j) → (∀ q ∈ locs, q.base = a) → W p l e R s m args below meth c (kq_set H a (kq_I cI 8 V)) locs cells slots Q (F0 m 41 ls [])) :
    ∀ (n i V : Nat) (ls : Array Slot) (locs : List Loc), i + n = 8 → V < kw_M 8 → (∀ j, j < i → kw_d V j = kw_d ((A + kw_M 8 * tp) / 2) j) → (∀ j, i ≤ j → j < 8 → kw_d V j = kw_d A j) → (∀ q ∈ locs, q.base = a) → lv_has ls 3 [(2, .int (nI i)), (0, .ref a), (1, .int (nI tp))] → W p l e R s m args below meth c (kq_set H a (kq_I cI 8 V)) locs cells slots Q (F0 m 2 ls []) := by
  intro n
  induction n with
  | zero =>
    intro i V ls locs hn hV h1 h2 hlc hl
    obtain rfl : i = 8 := by omega
    refine lv_iload_n hx hb d_Mo_half_2 rfl (lv_at hl 0 rfl) ?_
    refine lv_bipush (v := nI 8) hx hb d_Mo_half_3 (by decide) ?_
    refine lv_icmp_ge hx hb d_Mo_half_5 rfl (fun hc => ?_) (fun hc => ?_)
    · exact kk V ls locs hV h1 hlc
    · exact absurd (nI_le (Nat.le_refl 8) (by decide)) hc
  | succ n ih =>
    intro i V ls locs hn hV h1 h2 hlc hl
    have hi : i < 8 := by omega
    have hrow := kq_set_at (x := kq_I cI 8 V) hr
    have hsv : kq_r s .int (kq_set H a (kq_I cI 8 V)) a 8 (fun j => .int (nI (kw_d V j))) := kq_r.ofV hT hrow
    have lA := kw_d_lt A i
    have eA : kw_d V i = kw_d A i := h2 i (Nat.le_refl i) hi
    have hX : ∀ j, j < 8 → kw_d (A + kw_M 8 * tp) j = kw_d A j := fun j hj => kw_d_add_hi A tp hj
    have hw := kw_half (A + kw_M 8 * tp) i
    rw [hX i hi] at hw
    have lX := kw_d_lt ((A + kw_M 8 * tp) / 2) i
    refine lv_iload_n hx hb d_Mo_half_2 rfl (lv_at hl 0 rfl) ?_
    refine lv_bipush (v := nI 8) hx hb d_Mo_half_3 (by decide) ?_
    refine lv_icmp_ge hx hb d_Mo_half_5 rfl (fun hc => ?_) (fun hc => ?_)
    · exact absurd hc (nI_ge hi (by decide))
    · refine lv_aload_n hx hb d_Mo_half_8 rfl (lv_at hl 1 rfl) ?_
      refine lv_iload_n hx hb d_Mo_half_9 rfl (lv_at hl 0 rfl) ?_
      refine lv_aload_n hx hb d_Mo_half_10 rfl (lv_at hl 1 rfl) ?_
      refine lv_iload_n hx hb d_Mo_half_11 rfl (lv_at hl 0 rfl) ?_
      refine kq_iald hx hb (hsv) (hi) (by decide) (by rw [eA]) d_Mo_half_12 ?_
      refine lv_iconst (v := nI 1) hx hb d_Mo_half_13 (by decide) ?_
      refine lv_iushr (v := nI (kw_d A i / 2)) hx hb d_Mo_half_14 (kx_ushr1 lA) ?_
      refine lv_iload_n hx hb d_Mo_half_15 rfl (lv_at hl 0 rfl) ?_
      refine lv_bipush (v := nI 7) hx hb d_Mo_half_16 (by decide) ?_
      refine lv_icmp_ge hx hb d_Mo_half_18 rfl (fun hc7 => ?_) (fun hc7 => ?_)
      · have i7 : i = 7 := by
          have q := (nI_leI (a := 7) (b := i) (by decide) (by omega)).mp hc7
          omega
        subst i7
        refine lv_iload_n hx hb d_Mo_half_29 rfl (lv_at hl 2 rfl) ?_
        refine lv_bipush (v := nI 31) hx hb d_Mo_half_30 (by decide) ?_
        refine lv_ishl hx hb d_Mo_half_32 ?_
        refine kq_ri (show nI tp <<< (nI 31 &&& 31) = nI (tp % 2 * 2147483648) from kx_shl31 (by omega)) ?_
        refine lv_ior hx hb d_Mo_half_33 ?_
        refine kq_ri (show (nI (kw_d A 7 / 2)) ||| (nI (tp % 2 * 2147483648)) = nI (kw_d ((A + kw_M 8 * tp) / 2) 7) from (by rw [kx_word lA, hw, kw_top hA htp])) ?_
        refine kq_iast hx hb (hT) (hrow) (hi) (by decide) (lX) d_Mo_half_34 ?_
        refine kq_rH (kq_set_set _ _ _ _) ?_
        refine lv_iinc (k := 0) (v := nI (7 + 1)) hx hb d_Mo_half_35 hl rfl (kq_inc 7) (by decide) rfl (fun ls hl => ?_)
        have hl : lv_has ls 3 [(2, .int (nI (7 + 1))), (0, .ref a), (1, .int (nI tp))] := hl
        refine lv_goto hx hb d_Mo_half_38 rfl ?_
        refine ih (7 + 1) (kw_s V 7 (kw_d ((A + kw_M 8 * tp) / 2) 7)) ls _ (by omega) (kw_s_lt hV hi lX) (fun j hj => ?_) (fun j g1 g2 => ?_) (t_lc (free := fun q => q = a) hlc rfl) (lv_sub hl [0, 1, 2] rfl)
        · by_cases e : j = 7
          · subst e
            rw [kw_d_ws_same _ _ lX]
          · rw [kw_d_ws_ne _ lX e]
            exact h1 j (by omega)
        · rw [kw_d_ws_ne _ lX (by omega)]
          exact h2 j (by omega) g2
      · have i7 : i < 7 := by
          apply Classical.byContradiction
          intro q
          exact hc7 (nI_le (show 7 ≤ i by omega) (by omega))
        have eA1 : kw_d V (i + 1) = kw_d A (i + 1) := h2 (i + 1) (by omega) (by omega)
        have lA1 := kw_d_lt A (i + 1)
        refine lv_aload_n hx hb d_Mo_half_21 rfl (lv_at hl 1 rfl) ?_
        refine lv_iload_n hx hb d_Mo_half_22 rfl (lv_at hl 0 rfl) ?_
        refine lv_iconst (v := nI 1) hx hb d_Mo_half_23 (by decide) ?_
        refine lv_iadd hx hb d_Mo_half_24 ?_
        refine kq_ri (show (nI i) + (nI 1) = nI (i + 1) from nI_add _ _) ?_
        refine kq_iald hx hb (hsv) ((by omega)) (by decide) (by rw [eA1]) d_Mo_half_25 ?_
        refine lv_goto hx hb d_Mo_half_26 rfl ?_
        refine lv_bipush (v := nI 31) hx hb d_Mo_half_30 (by decide) ?_
        refine lv_ishl hx hb d_Mo_half_32 ?_
        refine kq_ri (show nI (kw_d A (i + 1)) <<< (nI 31 &&& 31) = nI (kw_d A (i + 1) % 2 * 2147483648) from kx_shl31 (lA1)) ?_
        refine lv_ior hx hb d_Mo_half_33 ?_
        refine kq_ri (show (nI (kw_d A i / 2)) ||| (nI (kw_d A (i + 1) % 2 * 2147483648)) = nI (kw_d ((A + kw_M 8 * tp) / 2) i) from (by rw [kx_word lA, hw, hX (i + 1) (by omega)])) ?_
        refine kq_iast hx hb (hT) (hrow) (hi) (by decide) (lX) d_Mo_half_34 ?_
        refine kq_rH (kq_set_set _ _ _ _) ?_
        refine lv_iinc (k := 0) (v := nI (i + 1)) hx hb d_Mo_half_35 hl rfl (kq_inc i) (by decide) rfl (fun ls hl => ?_)
        have hl : lv_has ls 3 [(2, .int (nI (i + 1))), (0, .ref a), (1, .int (nI tp))] := hl
        refine lv_goto hx hb d_Mo_half_38 rfl ?_
        refine ih (i + 1) (kw_s V i (kw_d ((A + kw_M 8 * tp) / 2) i)) ls _ (by omega) (kw_s_lt hV hi lX) (fun j hj => ?_) (fun j g1 g2 => ?_) (t_lc (free := fun q => q = a) hlc rfl) (lv_sub hl [0, 1, 2] rfl)
        · by_cases e : j = i
          · subst e
            rw [kw_d_ws_same _ _ lX]
          · rw [kw_d_ws_ne _ lX e]
            exact h1 j (by omega)
        · rw [kw_d_ws_ne _ lX (by omega)]
          exact h2 j (by omega) g2
end
set_option maxHeartbeats 4000000 in
set_option maxRecDepth 100000 in
theorem c_Mo_half (l : Launch) (H : Heap) (cI : ClassId) (a A tp : Nat) (hA : A < kw_M 8) (htp : tp ≤ 1) (hr : H[a]? = some (kq_I cI 8 A)) : Met l y_Mo_half w_Mo_half ({ frames := 0, cells := 0, slots := 0, locals := 0 }) (kq_P [.ref a, .int (nI tp)] H (fun U => ArrOfT U cI .int)) (kq_Q (fun v H1 => v = none ∧ H1 = kq_set H a (kq_I cI 8 ((A + kw_M 8 * tp) / 2)))) 0 0 (fun q => q = a) := by
  refine Met.ofW (cc := b_Mo_half) (maxL := 3) (ret := none) (by decide) rfl ?_
  intro p e s m args below meth c s₁ B0 hml hv
  obtain ⟨rfl, hH, hT⟩ := hv
  have hx := B0.exec
  have hb := B0.bytes
  have hret := B0.returns
  have hts := atoms_spec (ws := w_Mo_half) B0.pre
  have hown : s.vm.findClass R_Mo = some m.cls := findClass_of_methodNamed B0.named
  have hlocks := B0.notSynchronized
  rw [hH]
  have hl := lv_entry ([.ref a, .int (nI tp)]) (n := 3) (Nat.le_of_ble_eq_true rfl)
  rw [lg_entry_eq]
  generalize (lg_sl ([.ref a, .int (nI tp)]) ++ List.replicate (3 - (lg_sl ([.ref a, .int (nI tp)])).length) Slot.unset).toArray = ls at hl ⊢
  have hl : lv_has ls 3 [(0, .ref a), (1, .int (nI tp))] := hl
  refine lv_iconst (v := nI 0) hx hb d_Mo_half_0 (by decide) ?_
  refine lv_istore_n hx hb d_Mo_half_1 rfl hl (by decide) rfl (fun ls hl => ?_)
  have hl : lv_has ls 3 [(2, .int (nI 0)), (0, .ref a), (1, .int (nI tp))] := hl
  refine kq_rH (kq_set_self hr).symm ?_
  refine lp_Mo_half hx hb hT hr hA htp (fun V ls locs hV h1 hlc => ?_) 8 0 A ls [] rfl hA (fun j hj => by omega) (fun _ _ _ => rfl) (fun q h => by cases h) (lv_sub hl [0, 1, 2] rfl)
  have e : V = ((A + kw_M 8 * tp) / 2) := by
    refine kw_d_eq hV ?_ h1
    have q : kw_M 8 * tp ≤ kw_M 8 * 1 := Nat.mul_le_mul (Nat.le_refl _) htp
    omega
  rw [e]
  exact W.vret hx hb hret (fun t ht _ => ⟨_, rfl, rfl, ht⟩) hlc d_Mo_half_41
