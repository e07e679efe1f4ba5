/-! KeyCurveModel: numbers and compares; compare, isZero, isOne, isEven, bit, copy (own rows). -/
theorem nI_mod (n : Nat) : nI n = nI (n % 4294967296) := Int32.toBitVec_inj.mp (by
  show BitVec.ofNat 32 n = BitVec.ofNat 32 _
  apply BitVec.eq_of_toNat_eq
  rw [BitVec.toNat_ofNat, BitVec.toNat_ofNat, Nat.mod_mod])
theorem kx_nt {w : Nat} (h : w < 4294967296) : (nI w).toBitVec.toNat = w := pk_tn (by omega)
theorem kx_maskN {w : Nat} (h : w < 4294967296) : (nI w).toInt64 &&& lN 4294967295 = lN w := by rw [kx_mask, kx_nt h]
theorem kx_ut {a : Nat} (h : a < 4294967296) : (nI a + (-2147483648)).toInt = (a : Int) - 2147483648 := by
  have e : (nI a + (-2147483648)).toBitVec.toNat = (a + 2147483648) % 4294967296 := by
    rw [Int32.toBitVec_add, BitVec.toNat_add, kx_nt h]
    rfl
  show (nI a + (-2147483648)).toBitVec.toInt = _
  rw [BitVec.toInt_eq_toNat_cond, e]
  split <;> omega
theorem kx_ult {a b : Nat} (ha : a < 4294967296) (hb : b < 4294967296) : nI a + (-2147483648) < nI b + (-2147483648) ↔ a < b := by
  rw [Int32.lt_iff_toInt_lt, kx_ut ha, kx_ut hb]
  omega
theorem kx_ueq {a b : Nat} (ha : a < 4294967296) (hb : b < 4294967296) : nI a + (-2147483648) = nI b + (-2147483648) ↔ a = b := by
  rw [← Int32.toInt_inj, kx_ut ha, kx_ut hb]
  omega
def kx_cmp (a b : Nat) : Int32 := if a < b then -1 else if a = b then 0 else 1
theorem kx_cmp_0 {a b : Nat} : kx_cmp a b = 0 ↔ a = b := by
  unfold kx_cmp
  split
  · exact ⟨fun q => absurd q (by decide), fun q => by omega⟩
  · split
    · rename_i q
      exact ⟨fun _ => q, fun _ => rfl⟩
    · rename_i q
      exact ⟨fun z => absurd z (by decide), fun z => absurd z q⟩
theorem kx_cmp_ge {a b : Nat} : 0 ≤ kx_cmp a b ↔ b ≤ a := by
  unfold kx_cmp
  split
  · exact ⟨fun q => absurd q (by decide), fun q => by omega⟩
  · split
    · exact ⟨fun _ => by omega, fun _ => by decide⟩
    · exact ⟨fun _ => by omega, fun _ => by decide⟩
theorem kx_cmp_lt {a b : Nat} : kx_cmp a b < 0 ↔ a < b := by
  unfold kx_cmp
  split
  · exact ⟨fun _ => by assumption, fun _ => by decide⟩
  · split
    · exact ⟨fun q => absurd q (by decide), fun q => by omega⟩
    · exact ⟨fun q => absurd q (by decide), fun q => by omega⟩
theorem kx_n0 {w : Nat} (h : w < 4294967296) : nI w = 0 ↔ w = 0 := ⟨fun q => kq_nI_inj h (by decide) q, fun q => by rw [q]; rfl⟩
theorem kx_n1 {w : Nat} (h : w < 4294967296) : nI w = nI 1 ↔ w = 1 := ⟨fun q => kq_nI_inj h (by decide) q, fun q => by rw [q]⟩
theorem d_In_compare_0 : decode b_In_compare 0 = .ok (.iload_n 0, 1) := by decide +kernel
theorem d_In_compare_1 : decode b_In_compare 1 = .ok (.iload_n 1, 1) := by decide +kernel
theorem d_In_compare_2 : decode b_In_compare 2 = .ok (.if_icmp .ge 7, 3) := by decide +kernel
theorem d_In_compare_5 : decode b_In_compare 5 = .ok (.iconst (-1), 1) := by decide +kernel
theorem d_In_compare_6 : decode b_In_compare 6 = .ok (.goto 13, 3) := by decide +kernel
theorem d_In_compare_9 : decode b_In_compare 9 = .ok (.iload_n 0, 1) := by decide +kernel
theorem d_In_compare_10 : decode b_In_compare 10 = .ok (.iload_n 1, 1) := by decide +kernel
theorem d_In_compare_11 : decode b_In_compare 11 = .ok (.if_icmp .ne 7, 3) := by decide +kernel
theorem d_In_compare_14 : decode b_In_compare 14 = .ok (.iconst 0, 1) := by decide +kernel
theorem d_In_compare_15 : decode b_In_compare 15 = .ok (.goto 4, 3) := by decide +kernel
theorem d_In_compare_18 : decode b_In_compare 18 = .ok (.iconst 1, 1) := by decide +kernel
theorem d_In_compare_19 : decode b_In_compare 19 = .ok (.ireturn, 1) := by decide +kernel
set_option maxHeartbeats 4000000 in
set_option maxRecDepth 100000 in
theorem c_In_compare (l : Launch) (H : Heap) (x y : Int32) : Met l y_In_compare w_In_compare ({ frames := 0, cells := 0, slots := 0, locals := 0 }) (kq_P [.int x, .int y] H (fun U => True)) (kq_Q (fun v H1 => v = some (.int (if x < y then -1 else if x = y then 0 else 1)) ∧ H1 = H)) 0 0 (fun _ => False) := by
  refine Met.ofW (cc := b_In_compare) (maxL := 2) (ret := (some .int)) (by decide) rfl ?_
  intro p e s m args below meth c s₁ B0 hml hv
  obtain ⟨rfl, hH, -⟩ := hv
  have hx := B0.exec
  have hb := B0.bytes
  have hret := B0.returns
  have hts := atoms_spec (ws := w_In_compare) B0.pre
  have hown : s.vm.findClass R_In = some m.cls := findClass_of_methodNamed B0.named
  have hlocks := B0.notSynchronized
  rw [hH]
  have hl := lv_entry ([.int x, .int y]) (n := 2) (Nat.le_of_ble_eq_true rfl)
  rw [lg_entry_eq]
  generalize (lg_sl ([.int x, .int y]) ++ List.replicate (2 - (lg_sl ([.int x, .int y])).length) Slot.unset).toArray = ls at hl ⊢
  have hl : lv_has ls 2 [(0, .int x), (1, .int y)] := hl
  refine lv_iload_n hx hb d_In_compare_0 rfl (lv_at hl 0 rfl) ?_
  refine lv_iload_n hx hb d_In_compare_1 rfl (lv_at hl 1 rfl) ?_
  refine lv_icmp_ge hx hb d_In_compare_2 rfl (fun hc => ?_) (fun hc => ?_)
  · refine lv_iload_n hx hb d_In_compare_9 rfl (lv_at hl 0 rfl) ?_
    refine lv_iload_n hx hb d_In_compare_10 rfl (lv_at hl 1 rfl) ?_
    refine lv_icmp_ne hx hb d_In_compare_11 rfl (fun hn => ?_) (fun hn => ?_)
    · refine lv_iconst (v := nI 1) hx hb d_In_compare_18 (by decide) ?_
      exact W.iret hx hb hret (fun t ht _ => ⟨_, rfl, by rw [if_neg (Int32.not_lt.mpr hc), if_neg hn]; rfl, ht⟩) (fun q h => by cases h) d_In_compare_19
    · refine lv_iconst (v := nI 0) hx hb d_In_compare_14 (by decide) ?_
      refine lv_goto hx hb d_In_compare_15 rfl ?_
      exact W.iret hx hb hret (fun t ht _ => ⟨_, rfl, by rw [if_neg (Int32.not_lt.mpr hc), if_pos hn]; rfl, ht⟩) (fun q h => by cases h) d_In_compare_19
  · refine lv_iconst (v := (-1)) hx hb d_In_compare_5 (by decide) ?_
    refine lv_goto hx hb d_In_compare_6 rfl ?_
    exact W.iret hx hb hret (fun t ht _ => ⟨_, rfl, by rw [if_pos (Int32.not_le.mp hc)], ht⟩) (fun q h => by cases h) d_In_compare_19
theorem d_In_compareUnsigned_0 : decode b_In_compareUnsigned 0 = .ok (.iload_n 0, 1) := by decide +kernel
theorem d_In_compareUnsigned_1 : decode b_In_compareUnsigned 1 = .ok (.ldc 127, 2) := by decide +kernel
theorem d_In_compareUnsigned_3 : decode b_In_compareUnsigned 3 = .ok (.iadd, 1) := by decide +kernel
theorem d_In_compareUnsigned_4 : decode b_In_compareUnsigned 4 = .ok (.iload_n 1, 1) := by decide +kernel
theorem d_In_compareUnsigned_5 : decode b_In_compareUnsigned 5 = .ok (.ldc 127, 2) := by decide +kernel
theorem d_In_compareUnsigned_7 : decode b_In_compareUnsigned 7 = .ok (.iadd, 1) := by decide +kernel
theorem d_In_compareUnsigned_8 : decode b_In_compareUnsigned 8 = .ok (.invokestatic 259, 3) := by decide +kernel
theorem d_In_compareUnsigned_11 : decode b_In_compareUnsigned 11 = .ok (.ireturn, 1) := by decide +kernel
set_option maxHeartbeats 4000000 in
set_option maxRecDepth 100000 in
theorem c_In_compareUnsigned (l : Launch) (H : Heap) (a b : Nat) (ha : a < 4294967296) (hb0 : b < 4294967296) : Met l y_In_compareUnsigned w_In_compareUnsigned ({ frames := 1, cells := 0, slots := 0, locals := 21 }) (kq_P [.int (nI a), .int (nI b)] H (fun U => True)) (kq_Q (fun v H1 => v = some (.int (kx_cmp a b)) ∧ H1 = H)) 0 0 (fun _ => False) := by
  refine Met.ofW (cc := b_In_compareUnsigned) (maxL := 2) (ret := (some .int)) (by decide) rfl ?_
  intro p e s m args below meth c s₁ B0 hml hv
  obtain ⟨rfl, hH, -⟩ := hv
  have hx := B0.exec
  have hb := B0.bytes
  have hret := B0.returns
  have hts := atoms_spec (ws := w_In_compareUnsigned) B0.pre
  have hown : s.vm.findClass R_In = some m.cls := findClass_of_methodNamed B0.named
  have hlocks := B0.notSynchronized
  rw [hH]
  have hl := lv_entry ([.int (nI a), .int (nI b)]) (n := 2) (Nat.le_of_ble_eq_true rfl)
  rw [lg_entry_eq]
  generalize (lg_sl ([.int (nI a), .int (nI b)]) ++ List.replicate (2 - (lg_sl ([.int (nI a), .int (nI b)])).length) Slot.unset).toArray = ls at hl ⊢
  have hl : lv_has ls 2 [(0, .int (nI a)), (1, .int (nI b))] := hl
  refine lv_iload_n hx hb d_In_compareUnsigned_0 rfl (lv_at hl 0 rfl) ?_
  refine lv_ldc hx hb hown (v := -2147483648) (hts _ (List.mem_cons_of_mem _ kt_w469)) d_In_compareUnsigned_1 ?_
  refine lv_iadd hx hb d_In_compareUnsigned_3 ?_
  refine lv_iload_n hx hb d_In_compareUnsigned_4 rfl (lv_at hl 1 rfl) ?_
  refine lv_ldc hx hb hown (v := -2147483648) (hts _ (List.mem_cons_of_mem _ kt_w469)) d_In_compareUnsigned_5 ?_
  refine lv_iadd hx hb d_In_compareUnsigned_7 ?_
  refine kq_call (va_runS (As := [.int (nI a + (-2147483648)), .int (nI b + (-2147483648))]) (rest := []) ⟨hx, hb, hml, hown, hts⟩ (c_In_compare l H (nI a + (-2147483648)) (nI b + (-2147483648))) (va_cwS 2 hts (kt_inS kt_w472 kt_w470 kt_w471 kt_w8) rfl rfl rfl (by decide +kernel) ⟨Nat.le_of_ble_eq_true rfl, Nat.le_of_ble_eq_true rfl⟩) (kq_preS (kq_st_p) (trivial)) rfl rfl hl.1 rfl (lv_room (Nat.le_of_ble_eq_true rfl)) d_In_compareUnsigned_8 ⟨Nat.zero_le _, Nat.zero_le _⟩) (fun v9 H9 L9 hq9 hL9 => ?_)
  obtain ⟨rfl, e9⟩ := hq9
  rw [e9]
  clear e9
  refine W.eq (g2 := F0 m 11 ls [.int (if nI a + (-2147483648) < nI b + (-2147483648) then -1 else if nI a + (-2147483648) = nI b + (-2147483648) then 0 else 1)]) rfl ?_
  have e1 : (if nI a + (-2147483648) < nI b + (-2147483648) then (-1 : Int32) else if nI a + (-2147483648) = nI b + (-2147483648) then 0 else 1) = kx_cmp a b := by
    unfold kx_cmp
    by_cases h1 : a < b
    · rw [if_pos h1, if_pos ((kx_ult ha hb0).mpr h1)]
    · rw [if_neg h1, if_neg (fun q => h1 ((kx_ult ha hb0).mp q))]
      by_cases h2 : a = b
      · rw [if_pos h2, if_pos ((kx_ueq ha hb0).mpr h2)]
      · rw [if_neg h2, if_neg (fun q => h2 ((kx_ueq ha hb0).mp q))]
  refine kq_ri e1 ?_
  exact W.iret hx hb hret (fun t ht _ => ⟨_, rfl, rfl, ht⟩) (t_lL (free := fun _ => False) (fun q h => by cases h) hL9) d_In_compareUnsigned_11
theorem d_Mo_compare_0 : decode b_Mo_compare 0 = .ok (.bipush 7, 2) := by decide +kernel
theorem d_Mo_compare_2 : decode b_Mo_compare 2 = .ok (.istore_n 2, 1) := by decide +kernel
theorem d_Mo_compare_3 : decode b_Mo_compare 3 = .ok (.iload_n 2, 1) := by decide +kernel
theorem d_Mo_compare_4 : decode b_Mo_compare 4 = .ok (.ifCond .lt 28, 3) := by decide +kernel
theorem d_Mo_compare_7 : decode b_Mo_compare 7 = .ok (.aload_n 0, 1) := by decide +kernel
theorem d_Mo_compare_8 : decode b_Mo_compare 8 = .ok (.iload_n 2, 1) := by decide +kernel
theorem d_Mo_compare_9 : decode b_Mo_compare 9 = .ok (.iaload, 1) := by decide +kernel
theorem d_Mo_compare_10 : decode b_Mo_compare 10 = .ok (.aload_n 1, 1) := by decide +kernel
theorem d_Mo_compare_11 : decode b_Mo_compare 11 = .ok (.iload_n 2, 1) := by decide +kernel
theorem d_Mo_compare_12 : decode b_Mo_compare 12 = .ok (.iaload, 1) := by decide +kernel
theorem d_Mo_compare_13 : decode b_Mo_compare 13 = .ok (.if_icmp .eq 13, 3) := by decide +kernel
theorem d_Mo_compare_16 : decode b_Mo_compare 16 = .ok (.aload_n 0, 1) := by decide +kernel
theorem d_Mo_compare_17 : decode b_Mo_compare 17 = .ok (.iload_n 2, 1) := by decide +kernel
theorem d_Mo_compare_18 : decode b_Mo_compare 18 = .ok (.iaload, 1) := by decide +kernel
theorem d_Mo_compare_19 : decode b_Mo_compare 19 = .ok (.aload_n 1, 1) := by decide +kernel
theorem d_Mo_compare_20 : decode b_Mo_compare 20 = .ok (.iload_n 2, 1) := by decide +kernel
theorem d_Mo_compare_21 : decode b_Mo_compare 21 = .ok (.iaload, 1) := by decide +kernel
theorem d_Mo_compare_22 : decode b_Mo_compare 22 = .ok (.invokestatic 70, 3) := by decide +kernel
theorem d_Mo_compare_25 : decode b_Mo_compare 25 = .ok (.ireturn, 1) := by decide +kernel
theorem d_Mo_compare_26 : decode b_Mo_compare 26 = .ok (.iinc 2 (-1), 3) := by decide +kernel
theorem d_Mo_compare_29 : decode b_Mo_compare 29 = .ok (.goto (-26), 3) := by decide +kernel
theorem d_Mo_compare_32 : decode b_Mo_compare 32 = .ok (.iconst 0, 1) := by decide +kernel
theorem d_Mo_compare_33 : decode b_Mo_compare 33 = .ok (.ireturn, 1) := by decide +kernel
section
variable {p : Program} {l : Launch} {e : Env} {R : Room} {s : State} {m : MethodId} {args : Array Value} {below : List Frame} {meth : Method} {c : Code} {cells slots : Nat} {Q : State → Prop}
set_option maxHeartbeats 4000000 in
set_option maxRecDepth 100000 in
theorem lp_Mo_compare (hx : p.tables.exec = Jvm.exec) (hb : c.code = b_Mo_compare) (hts : ∀ w ∈ w_Mo_compare, w.before args s = true) (hown : s.vm.findClass R_Mo = some m.cls) (hml : c.maxLocals = 3) (hRf : 2 ≤ R.frames) (hRl : 42 ≤ R.locals) {H : Heap} {a b A B : Nat} (hsa : kq_sI s H a 8 A) (hsb : kq_sI s H b 8 B)
    (k0 : ∀ (ls : Array Slot) (L : List Loc) (x : Int32), x = kx_cmp A B → (∀ q ∈ L, False) → W p l e R s m args below meth c H L 0 0 Q (F0 m 25 ls [.int x])) (k1 : ∀ ls : Array Slot, A = B → W p l e R s m args below meth c H [] 0 0 Q (F0 m 32 ls [])) :
    ∀ (n : Nat) (ls : Array Slot), n ≤ 8 → A / kw_M n = B / kw_M n → lv_has ls 3 [(2, .int (kq_dn n)), (0, .ref a), (1, .ref b)] → W p l e R s m args below meth c H [] 0 0 Q (F0 m 3 ls []) := by
  intro n
  induction n with
  | zero =>
    intro ls hn hd hl
    refine lv_iload_n hx hb d_Mo_compare_3 rfl (lv_at hl 0 rfl) ?_
    refine lv_if_lt hx hb d_Mo_compare_4 rfl (fun hc => ?_) (fun hc => ?_)
    · rw [kw_M_0, Nat.div_one, Nat.div_one] at hd
      exact k1 ls hd
    · exact absurd (by decide) hc
  | succ n ih =>
    intro ls hn hd hl
    have hi : n < 8 := by omega
    have lA := kw_d_lt A n
    have lB := kw_d_lt B n
    have hl : lv_has ls 3 [(2, .int (nI n)), (0, .ref a), (1, .ref b)] := hl
    refine lv_iload_n hx hb d_Mo_compare_3 rfl (lv_at hl 0 rfl) ?_
    refine lv_if_lt hx hb d_Mo_compare_4 rfl (fun hc => ?_) (fun hc => ?_)
    · exact absurd hc (nI_pos (by omega))
    · refine lv_aload_n hx hb d_Mo_compare_7 rfl (lv_at hl 1 rfl) ?_
      refine lv_iload_n hx hb d_Mo_compare_8 rfl (lv_at hl 0 rfl) ?_
      refine kq_iald hx hb (hsa) (hi) (by decide) (rfl) d_Mo_compare_9 ?_
      refine lv_aload_n hx hb d_Mo_compare_10 rfl (lv_at hl 2 rfl) ?_
      refine lv_iload_n hx hb d_Mo_compare_11 rfl (lv_at hl 0 rfl) ?_
      refine kq_iald hx hb (hsb) (hi) (by decide) (rfl) d_Mo_compare_12 ?_
      refine lv_icmp_eq hx hb d_Mo_compare_13 rfl (fun hw => ?_) (fun hw => ?_)
      · have hw := kq_nI_inj lA lB hw
        refine lv_iinc (k := 0) (v := kq_dn n) hx hb d_Mo_compare_26 hl rfl (kq_dn_dec n) (by decide) rfl (fun ls hl => ?_)
        have hl : lv_has ls 3 [(2, .int (kq_dn n)), (0, .ref a), (1, .ref b)] := hl
        refine lv_goto hx hb d_Mo_compare_29 rfl ?_
        exact ih ls (by omega) (by rw [kw_d_div, kw_d_div B, hd, hw]) (lv_sub hl [0, 1, 2] rfl)
      · have hne : kw_d A n ≠ kw_d B n := fun q => hw (by rw [q])
        have hlt := kw_less hd hne
        refine lv_aload_n hx hb d_Mo_compare_16 rfl (lv_at hl 1 rfl) ?_
        refine lv_iload_n hx hb d_Mo_compare_17 rfl (lv_at hl 0 rfl) ?_
        refine kq_iald hx hb (hsa) (hi) (by decide) (rfl) d_Mo_compare_18 ?_
        refine lv_aload_n hx hb d_Mo_compare_19 rfl (lv_at hl 2 rfl) ?_
        refine lv_iload_n hx hb d_Mo_compare_20 rfl (lv_at hl 0 rfl) ?_
        refine kq_iald hx hb (hsb) (hi) (by decide) (rfl) d_Mo_compare_21 ?_
        refine kq_call (va_runS (As := [.int (nI (kw_d A n)), .int (nI (kw_d B n))]) (rest := []) ⟨hx, hb, hml, hown, hts⟩ (c_In_compareUnsigned l H (kw_d A n) (kw_d B n) lA lB) (va_cwS 2 hts (kt_inS kt_w468 kt_w466 kt_w467 kt_w8) rfl rfl rfl (by decide +kernel) ⟨Nat.le_trans (Nat.le_of_ble_eq_true rfl) hRf, Nat.le_trans (Nat.le_of_ble_eq_true rfl) hRl⟩) (kq_preS (kq_st_p) (trivial)) rfl rfl hl.1 rfl (lv_room (Nat.le_of_ble_eq_true rfl)) d_Mo_compare_22 ⟨Nat.zero_le _, Nat.zero_le _⟩) (fun v9 H9 L9 hq9 hL9 => ?_)
        obtain ⟨rfl, e9⟩ := hq9
        rw [e9]
        clear e9
        refine W.eq (g2 := F0 m 25 ls [.int (kx_cmp (kw_d A n) (kw_d B n))]) rfl ?_
        have hAB : A ≠ B := fun q => hne (by rw [q])
        refine k0 ls _ _ ?_ (t_lL (free := fun _ => False) (fun q h => by cases h) hL9)
        unfold kx_cmp
        by_cases h1 : A < B
        · rw [if_pos h1, if_pos (hlt.mp h1)]
        · rw [if_neg h1, if_neg (fun q => h1 (hlt.mpr q)), if_neg hAB, if_neg hne]
end
set_option maxHeartbeats 4000000 in
set_option maxRecDepth 100000 in
theorem c_Mo_compare (l : Launch) (H : Heap) (a b A B : Nat) (hA : A < kw_M 8) (hB : B < kw_M 8) : Met l y_Mo_compare w_Mo_compare ({ frames := 2, cells := 0, slots := 0, locals := 42 }) (kq_P [.ref a, .ref b] H (fun U => kq_sI U H a 8 A ∧ kq_sI U H b 8 B)) (kq_Q (fun v H1 => v = some (.int (kx_cmp A B)) ∧ H1 = H)) 0 0 (fun _ => False) := by
  refine Met.ofW (cc := b_Mo_compare) (maxL := 3) (ret := (some .int)) (by decide) rfl ?_
  intro p e s m args below meth c s₁ B0 hml hv
  obtain ⟨rfl, hH, hsa, hsb⟩ := hv
  have hx := B0.exec
  have hb := B0.bytes
  have hret := B0.returns
  have hts := atoms_spec (ws := w_Mo_compare) B0.pre
  have hown : s.vm.findClass R_Mo = some m.cls := findClass_of_methodNamed B0.named
  have hlocks := B0.notSynchronized
  rw [hH]
  have hl := lv_entry ([.ref a, .ref b]) (n := 3) (Nat.le_of_ble_eq_true rfl)
  rw [lg_entry_eq]
  generalize (lg_sl ([.ref a, .ref b]) ++ List.replicate (3 - (lg_sl ([.ref a, .ref b])).length) Slot.unset).toArray = ls at hl ⊢
  have hl : lv_has ls 3 [(0, .ref a), (1, .ref b)] := hl
  refine lv_bipush (v := nI 7) hx hb d_Mo_compare_0 (by decide) ?_
  refine lv_istore_n hx hb d_Mo_compare_2 rfl hl (by decide) rfl (fun ls hl => ?_)
  have hl : lv_has ls 3 [(2, .int (nI 7)), (0, .ref a), (1, .ref b)] := hl
  refine lp_Mo_compare hx hb hts hown hml (Nat.le_of_ble_eq_true rfl) (Nat.le_of_ble_eq_true rfl) hsa hsb (fun ls L x hv hL => ?_) (fun ls he => ?_) 8 ls (Nat.le_refl 8) (by rw [Nat.div_eq_of_lt hA, Nat.div_eq_of_lt hB]) (lv_sub hl [0, 1, 2] rfl)
  · exact W.iret hx hb hret (fun t ht _ => ⟨_, rfl, by rw [hv], ht⟩) hL d_Mo_compare_25
  · refine lv_iconst (v := nI 0) hx hb d_Mo_compare_32 (by decide) ?_
    exact W.iret hx hb hret (fun t ht _ => ⟨_, rfl, by rw [kx_cmp_0.mpr he]; rfl, ht⟩) (fun q h => by cases h) d_Mo_compare_33
theorem d_Mo_isZero_0 : decode b_Mo_isZero 0 = .ok (.iconst 0, 1) := by decide +kernel
theorem d_Mo_isZero_1 : decode b_Mo_isZero 1 = .ok (.istore_n 1, 1) := by decide +kernel
theorem d_Mo_isZero_2 : decode b_Mo_isZero 2 = .ok (.iload_n 1, 1) := by decide +kernel
theorem d_Mo_isZero_3 : decode b_Mo_isZero 3 = .ok (.bipush 8, 2) := by decide +kernel
theorem d_Mo_isZero_5 : decode b_Mo_isZero 5 = .ok (.if_icmp .ge 17, 3) := by decide +kernel
theorem d_Mo_isZero_8 : decode b_Mo_isZero 8 = .ok (.aload_n 0, 1) := by decide +kernel
theorem d_Mo_isZero_9 : decode b_Mo_isZero 9 = .ok (.iload_n 1, 1) := by decide +kernel
theorem d_Mo_isZero_10 : decode b_Mo_isZero 10 = .ok (.iaload, 1) := by decide +kernel
theorem d_Mo_isZero_11 : decode b_Mo_isZero 11 = .ok (.ifCond .eq 5, 3) := by decide +kernel
theorem d_Mo_isZero_14 : decode b_Mo_isZero 14 = .ok (.iconst 0, 1) := by decide +kernel
theorem d_Mo_isZero_15 : decode b_Mo_isZero 15 = .ok (.ireturn, 1) := by decide +kernel
theorem d_Mo_isZero_16 : decode b_Mo_isZero 16 = .ok (.iinc 1 1, 3) := by decide +kernel
theorem d_Mo_isZero_19 : decode b_Mo_isZero 19 = .ok (.goto (-17), 3) := by decide +kernel
theorem d_Mo_isZero_22 : decode b_Mo_isZero 22 = .ok (.iconst 1, 1) := by decide +kernel
theorem d_Mo_isZero_23 : decode b_Mo_isZero 23 = .ok (.ireturn, 1) := by decide +kernel
section
variable {p : Program} {l : Launch} {e : Env} {R : Room} {s : State} {m : MethodId} {args : Array Value} {below : List Frame} {meth : Method} {c : Code} {cells slots : Nat} {Q : State → Prop}
set_option maxHeartbeats 4000000 in
set_option maxRecDepth 100000 in
theorem lp_Mo_isZero (hx : p.tables.exec = Jvm.exec) (hb : c.code = b_Mo_isZero) {H : Heap} {locs : List Loc} {a A : Nat} (hsa : kq_sI s H a 8 A)
    (k0 : ∀ ls : Array Slot, A ≠ 0 → W p l e R s m args below meth c H locs cells slots Q (F0 m 14 ls [])) (k1 : ∀ ls : Array Slot, A % kw_M 8 = 0 → W p l e R s m args below meth c H locs cells slots Q (F0 m 22 ls [])) :
    ∀ (n i : Nat) (ls : Array Slot), i + n = 8 → A % kw_M i = 0 → lv_has ls 2 [(1, .int (nI i)), (0, .ref a)] → W p l e R s m args below meth c H locs cells slots Q (F0 m 2 ls []) := by
  intro n
  induction n with
  | zero =>
    intro i ls hn hi0 hl
    obtain rfl : i = 8 := by omega
    refine lv_iload_n hx hb d_Mo_isZero_2 rfl (lv_at hl 0 rfl) ?_
    refine lv_bipush (v := nI 8) hx hb d_Mo_isZero_3 (by decide) ?_
    refine lv_icmp_ge hx hb d_Mo_isZero_5 rfl (fun hc => ?_) (fun hc => ?_)
    · exact k1 ls hi0
    · exact absurd (nI_le (Nat.le_refl 8) (by decide)) hc
  | succ n ih =>
    intro i ls hn hi0 hl
    have hi : i < 8 := by omega
    have lA := kw_d_lt A i
    refine lv_iload_n hx hb d_Mo_isZero_2 rfl (lv_at hl 0 rfl) ?_
    refine lv_bipush (v := nI 8) hx hb d_Mo_isZero_3 (by decide) ?_
    refine lv_icmp_ge hx hb d_Mo_isZero_5 rfl (fun hc => ?_) (fun hc => ?_)
    · exact absurd hc (nI_ge hi (by decide))
    · refine lv_aload_n hx hb d_Mo_isZero_8 rfl (lv_at hl 1 rfl) ?_
      refine lv_iload_n hx hb d_Mo_isZero_9 rfl (lv_at hl 0 rfl) ?_
      refine kq_iald hx hb (hsa) (hi) (by decide) (rfl) d_Mo_isZero_10 ?_
      refine lv_if_eq hx hb d_Mo_isZero_11 rfl (fun hw => ?_) (fun hw => ?_)
      · refine lv_iinc (k := 0) (v := nI (i + 1)) hx hb d_Mo_isZero_16 hl rfl (kq_inc i) (by decide) rfl (fun ls hl => ?_)
        have hl : lv_has ls 2 [(1, .int (nI (i + 1))), (0, .ref a)] := hl
        refine lv_goto hx hb d_Mo_isZero_19 rfl ?_
        exact ih (i + 1) ls (by omega) (kw_d_zero.mpr ⟨hi0, (kx_n0 lA).mp hw⟩) (lv_sub hl [0, 1] rfl)
      · exact k0 ls (fun q => hw ((kx_n0 lA).mpr (by rw [q, kw_d_null])))
end
set_option maxHeartbeats 4000000 in
set_option maxRecDepth 100000 in
theorem c_Mo_isZero (l : Launch) (H : Heap) (a A : Nat) (hA : A < kw_M 8) : Met l y_Mo_isZero w_Mo_isZero ({ frames := 0, cells := 0, slots := 0, locals := 0 }) (kq_P [.ref a] H (fun U => kq_sI U H a 8 A)) (kq_Q (fun v H1 => v = some (.int (kq_z (decide (A = 0)))) ∧ H1 = H)) 0 0 (fun _ => False) := by
  refine Met.ofW (cc := b_Mo_isZero) (maxL := 2) (ret := (some .boolean)) (by decide) rfl ?_
  intro p e s m args below meth c s₁ B0 hml hv
  obtain ⟨rfl, hH, hsa⟩ := hv
  have hx := B0.exec
  have hb := B0.bytes
  have hret := B0.returns
  have hts := atoms_spec (ws := w_Mo_isZero) B0.pre
  have hown : s.vm.findClass R_Mo = some m.cls := findClass_of_methodNamed B0.named
  have hlocks := B0.notSynchronized
  rw [hH]
  have hl := lv_entry ([.ref a]) (n := 2) (Nat.le_of_ble_eq_true rfl)
  rw [lg_entry_eq]
  generalize (lg_sl ([.ref a]) ++ List.replicate (2 - (lg_sl ([.ref a])).length) Slot.unset).toArray = ls at hl ⊢
  have hl : lv_has ls 2 [(0, .ref a)] := hl
  refine lv_iconst (v := nI 0) hx hb d_Mo_isZero_0 (by decide) ?_
  refine lv_istore_n hx hb d_Mo_isZero_1 rfl hl (by decide) rfl (fun ls hl => ?_)
  have hl : lv_has ls 2 [(1, .int (nI 0)), (0, .ref a)] := hl
  refine lp_Mo_isZero hx hb hsa (fun ls hne => ?_) (fun ls he => ?_) 8 0 ls rfl (by rw [kw_M_0, Nat.mod_one]) (lv_sub hl [0, 1] rfl)
  · refine lv_iconst (v := nI 0) hx hb d_Mo_isZero_14 (by decide) ?_
    exact W.zret hx hb hret rfl (fun t ht _ => ⟨_, rfl, by rw [kq_z_f hne], ht⟩) (fun q h => by cases h) d_Mo_isZero_15
  · rw [Nat.mod_eq_of_lt hA] at he
    refine lv_iconst (v := nI 1) hx hb d_Mo_isZero_22 (by decide) ?_
    exact W.zret hx hb hret rfl (fun t ht _ => ⟨_, rfl, by rw [kq_z_t he], ht⟩) (fun q h => by cases h) d_Mo_isZero_23
theorem d_Mo_isOne_0 : decode b_Mo_isOne 0 = .ok (.iconst 1, 1) := by decide +kernel
theorem d_Mo_isOne_1 : decode b_Mo_isOne 1 = .ok (.istore_n 1, 1) := by decide +kernel
theorem d_Mo_isOne_2 : decode b_Mo_isOne 2 = .ok (.iload_n 1, 1) := by decide +kernel
theorem d_Mo_isOne_3 : decode b_Mo_isOne 3 = .ok (.bipush 8, 2) := by decide +kernel
theorem d_Mo_isOne_5 : decode b_Mo_isOne 5 = .ok (.if_icmp .ge 17, 3) := by decide +kernel
theorem d_Mo_isOne_8 : decode b_Mo_isOne 8 = .ok (.aload_n 0, 1) := by decide +kernel
theorem d_Mo_isOne_9 : decode b_Mo_isOne 9 = .ok (.iload_n 1, 1) := by decide +kernel
theorem d_Mo_isOne_10 : decode b_Mo_isOne 10 = .ok (.iaload, 1) := by decide +kernel
theorem d_Mo_isOne_11 : decode b_Mo_isOne 11 = .ok (.ifCond .eq 5, 3) := by decide +kernel
theorem d_Mo_isOne_14 : decode b_Mo_isOne 14 = .ok (.iconst 0, 1) := by decide +kernel
theorem d_Mo_isOne_15 : decode b_Mo_isOne 15 = .ok (.ireturn, 1) := by decide +kernel
theorem d_Mo_isOne_16 : decode b_Mo_isOne 16 = .ok (.iinc 1 1, 3) := by decide +kernel
theorem d_Mo_isOne_19 : decode b_Mo_isOne 19 = .ok (.goto (-17), 3) := by decide +kernel
theorem d_Mo_isOne_22 : decode b_Mo_isOne 22 = .ok (.aload_n 0, 1) := by decide +kernel
theorem d_Mo_isOne_23 : decode b_Mo_isOne 23 = .ok (.iconst 0, 1) := by decide +kernel
theorem d_Mo_isOne_24 : decode b_Mo_isOne 24 = .ok (.iaload, 1) := by decide +kernel
theorem d_Mo_isOne_25 : decode b_Mo_isOne 25 = .ok (.iconst 1, 1) := by decide +kernel
theorem d_Mo_isOne_26 : decode b_Mo_isOne 26 = .ok (.if_icmp .ne 7, 3) := by decide +kernel
theorem d_Mo_isOne_29 : decode b_Mo_isOne 29 = .ok (.iconst 1, 1) := by decide +kernel
theorem d_Mo_isOne_30 : decode b_Mo_isOne 30 = .ok (.goto 4, 3) := by decide +kernel
theorem d_Mo_isOne_33 : decode b_Mo_isOne 33 = .ok (.iconst 0, 1) := by decide +kernel
theorem d_Mo_isOne_34 : decode b_Mo_isOne 34 = .ok (.ireturn, 1) := by decide +kernel
section
variable {p : Program} {l : Launch} {e : Env} {R : Room} {s : State} {m : MethodId} {args : Array Value} {below : List Frame} {meth : Method} {c : Code} {cells slots : Nat} {Q : State → Prop}
set_option maxHeartbeats 4000000 in
set_option maxRecDepth 100000 in
theorem lp_Mo_isOne (hx : p.tables.exec = Jvm.exec) (hb : c.code = b_Mo_isOne) {H : Heap} {locs : List Loc} {a A : Nat} (hsa : kq_sI s H a 8 A)
    (k0 : ∀ ls : Array Slot, A ≠ 1 → W p l e R s m args below meth c H locs cells slots Q (F0 m 14 ls [])) (k1 : ∀ ls : Array Slot, A % kw_M 8 = kw_d A 0 → lv_has ls 2 [(0, .ref a)] → W p l e R s m args below meth c H locs cells slots Q (F0 m 22 ls [])) :
    ∀ (n i : Nat) (ls : Array Slot), i + n = 8 → 1 ≤ i → A % kw_M i = kw_d A 0 → lv_has ls 2 [(1, .int (nI i)), (0, .ref a)] → W p l e R s m args below meth c H locs cells slots Q (F0 m 2 ls []) := by
  intro n
  induction n with
  | zero =>
    intro i ls hn h1 hi0 hl
    obtain rfl : i = 8 := by omega
    refine lv_iload_n hx hb d_Mo_isOne_2 rfl (lv_at hl 0 rfl) ?_
    refine lv_bipush (v := nI 8) hx hb d_Mo_isOne_3 (by decide) ?_
    refine lv_icmp_ge hx hb d_Mo_isOne_5 rfl (fun hc => ?_) (fun hc => ?_)
    · exact k1 ls hi0 (lv_sub hl [1] rfl)
    · exact absurd (nI_le (Nat.le_refl 8) (by decide)) hc
  | succ n ih =>
    intro i ls hn h1 hi0 hl
    have hi : i < 8 := by omega
    have lA := kw_d_lt A i
    refine lv_iload_n hx hb d_Mo_isOne_2 rfl (lv_at hl 0 rfl) ?_
    refine lv_bipush (v := nI 8) hx hb d_Mo_isOne_3 (by decide) ?_
    refine lv_icmp_ge hx hb d_Mo_isOne_5 rfl (fun hc => ?_) (fun hc => ?_)
    · exact absurd hc (nI_ge hi (by decide))
    · refine lv_aload_n hx hb d_Mo_isOne_8 rfl (lv_at hl 1 rfl) ?_
      refine lv_iload_n hx hb d_Mo_isOne_9 rfl (lv_at hl 0 rfl) ?_
      refine kq_iald hx hb (hsa) (hi) (by decide) (rfl) d_Mo_isOne_10 ?_
      refine lv_if_eq hx hb d_Mo_isOne_11 rfl (fun hw => ?_) (fun hw => ?_)
      · refine lv_iinc (k := 0) (v := nI (i + 1)) hx hb d_Mo_isOne_16 hl rfl (kq_inc i) (by decide) rfl (fun ls hl => ?_)
        have hl : lv_has ls 2 [(1, .int (nI (i + 1))), (0, .ref a)] := hl
        refine lv_goto hx hb d_Mo_isOne_19 rfl ?_
        exact ih (i + 1) ls (by omega) (by omega) (by rw [kw_d_lo, hi0, (kx_n0 lA).mp hw, Nat.mul_zero, Nat.add_zero]) (lv_sub hl [0, 1] rfl)
      · exact k0 ls (fun q => hw ((kx_n0 lA).mpr (by rw [q]; exact kw_d_big (n := 1) (by decide +kernel) h1)))
end
set_option maxHeartbeats 4000000 in
set_option maxRecDepth 100000 in
theorem c_Mo_isOne (l : Launch) (H : Heap) (a A : Nat) (hA : A < kw_M 8) : Met l y_Mo_isOne w_Mo_isOne ({ frames := 0, cells := 0, slots := 0, locals := 0 }) (kq_P [.ref a] H (fun U => kq_sI U H a 8 A)) (kq_Q (fun v H1 => v = some (.int (kq_z (decide (A = 1)))) ∧ H1 = H)) 0 0 (fun _ => False) := by
  refine Met.ofW (cc := b_Mo_isOne) (maxL := 2) (ret := (some .boolean)) (by decide) rfl ?_
  intro p e s m args below meth c s₁ B0 hml hv
  obtain ⟨rfl, hH, hsa⟩ := hv
  have hx := B0.exec
  have hb := B0.bytes
  have hret := B0.returns
  have hts := atoms_spec (ws := w_Mo_isOne) B0.pre
  have hown : s.vm.findClass R_Mo = some m.cls := findClass_of_methodNamed B0.named
  have hlocks := B0.notSynchronized
  rw [hH]
  have hl := lv_entry ([.ref a]) (n := 2) (Nat.le_of_ble_eq_true rfl)
  rw [lg_entry_eq]
  generalize (lg_sl ([.ref a]) ++ List.replicate (2 - (lg_sl ([.ref a])).length) Slot.unset).toArray = ls at hl ⊢
  have hl : lv_has ls 2 [(0, .ref a)] := hl
  refine lv_iconst (v := nI 1) hx hb d_Mo_isOne_0 (by decide) ?_
  refine lv_istore_n hx hb d_Mo_isOne_1 rfl hl (by decide) rfl (fun ls hl => ?_)
  have hl : lv_has ls 2 [(1, .int (nI 1)), (0, .ref a)] := hl
  refine lp_Mo_isOne hx hb hsa (fun ls hne => ?_) (fun ls he hl => ?_) 7 1 ls rfl (Nat.le_refl 1) (by rw [kw_d_lo, kw_M_0, Nat.mod_one, Nat.zero_add, Nat.one_mul]) (lv_sub hl [0, 1] rfl)
  · refine lv_iconst (v := nI 0) hx hb d_Mo_isOne_14 (by decide) ?_
    exact W.zret hx hb hret rfl (fun t ht _ => ⟨_, rfl, by rw [kq_z_f hne], ht⟩) (fun q h => by cases h) d_Mo_isOne_15
  · rw [Nat.mod_eq_of_lt hA] at he
    have lA := kw_d_lt A 0
    refine lv_aload_n hx hb d_Mo_isOne_22 rfl (lv_at hl 0 rfl) ?_
    refine lv_iconst (v := nI 0) hx hb d_Mo_isOne_23 (by decide) ?_
    refine kq_iald hx hb (hsa) ((by decide)) (by decide) (rfl) d_Mo_isOne_24 ?_
    refine lv_iconst (v := nI 1) hx hb d_Mo_isOne_25 (by decide) ?_
    refine lv_icmp_ne hx hb d_Mo_isOne_26 rfl (fun hw => ?_) (fun hw => ?_)
    · have hn : ¬ A = 1 := fun q => hw ((kx_n1 lA).mpr (by rw [← he]; exact q))
      refine lv_iconst (v := nI 0) hx hb d_Mo_isOne_33 (by decide) ?_
      exact W.zret hx hb hret rfl (fun t ht _ => ⟨_, rfl, by rw [kq_z_f hn], ht⟩) (fun q h => by cases h) d_Mo_isOne_34
    · have hp : A = 1 := by rw [he]; exact (kx_n1 lA).mp hw
      refine lv_iconst (v := nI 1) hx hb d_Mo_isOne_29 (by decide) ?_
      refine lv_goto hx hb d_Mo_isOne_30 rfl ?_
      exact W.zret hx hb hret rfl (fun t ht _ => ⟨_, rfl, by rw [kq_z_t hp], ht⟩) (fun q h => by cases h) d_Mo_isOne_34
theorem d_Mo_isEven_0 : decode b_Mo_isEven 0 = .ok (.aload_n 0, 1) := by decide +kernel
theorem d_Mo_isEven_1 : decode b_Mo_isEven 1 = .ok (.iconst 0, 1) := by decide +kernel
theorem d_Mo_isEven_2 : decode b_Mo_isEven 2 = .ok (.iaload, 1) := by decide +kernel
theorem d_Mo_isEven_3 : decode b_Mo_isEven 3 = .ok (.iconst 1, 1) := by decide +kernel
theorem d_Mo_isEven_4 : decode b_Mo_isEven 4 = .ok (.iand, 1) := by decide +kernel
theorem d_Mo_isEven_5 : decode b_Mo_isEven 5 = .ok (.ifCond .ne 7, 3) := by decide +kernel
theorem d_Mo_isEven_8 : decode b_Mo_isEven 8 = .ok (.iconst 1, 1) := by decide +kernel
theorem d_Mo_isEven_9 : decode b_Mo_isEven 9 = .ok (.goto 4, 3) := by decide +kernel
theorem d_Mo_isEven_12 : decode b_Mo_isEven 12 = .ok (.iconst 0, 1) := by decide +kernel
theorem d_Mo_isEven_13 : decode b_Mo_isEven 13 = .ok (.ireturn, 1) := by decide +kernel
set_option maxHeartbeats 4000000 in
set_option maxRecDepth 100000 in
theorem c_Mo_isEven (l : Launch) (H : Heap) (a A : Nat) : Met l y_Mo_isEven w_Mo_isEven ({ frames := 0, cells := 0, slots := 0, locals := 0 }) (kq_P [.ref a] H (fun U => kq_sI U H a 8 A)) (kq_Q (fun v H1 => v = some (.int (kq_z (decide (A % 2 = 0)))) ∧ H1 = H)) 0 0 (fun _ => False) := by
  refine Met.ofW (cc := b_Mo_isEven) (maxL := 1) (ret := (some .boolean)) (by decide) rfl ?_
  intro p e s m args below meth c s₁ B0 hml hv
  obtain ⟨rfl, hH, hsa⟩ := hv
  have hx := B0.exec
  have hb := B0.bytes
  have hret := B0.returns
  have hts := atoms_spec (ws := w_Mo_isEven) B0.pre
  have hown : s.vm.findClass R_Mo = some m.cls := findClass_of_methodNamed B0.named
  have hlocks := B0.notSynchronized
  rw [hH]
  have hl := lv_entry ([.ref a]) (n := 1) (Nat.le_of_ble_eq_true rfl)
  rw [lg_entry_eq]
  generalize (lg_sl ([.ref a]) ++ List.replicate (1 - (lg_sl ([.ref a])).length) Slot.unset).toArray = ls at hl ⊢
  have hl : lv_has ls 1 [(0, .ref a)] := hl
  have lA := kw_d_lt A 0
  refine lv_aload_n hx hb d_Mo_isEven_0 rfl (lv_at hl 0 rfl) ?_
  refine lv_iconst (v := nI 0) hx hb d_Mo_isEven_1 (by decide) ?_
  refine kq_iald hx hb (hsa) ((by decide)) (by decide) (rfl) d_Mo_isEven_2 ?_
  refine lv_iconst (v := nI 1) hx hb d_Mo_isEven_3 (by decide) ?_
  refine lv_iand hx hb d_Mo_isEven_4 ?_
  refine kq_ri (show (nI (kw_d A 0)) &&& (nI 1) = nI (A % 2) from (by rw [pk_andN (n := kw_d A 0) (m := nI 1) (by omega) 1 rfl, kw_d_0]; congr 1; omega)) ?_
  refine lv_if_ne hx hb d_Mo_isEven_5 rfl (fun hw => ?_) (fun hw => ?_)
  · have hn : ¬ A % 2 = 0 := fun q => hw ((kx_n0 (by omega)).mpr q)
    refine lv_iconst (v := nI 0) hx hb d_Mo_isEven_12 (by decide) ?_
    exact W.zret hx hb hret rfl (fun t ht _ => ⟨_, rfl, by rw [kq_z_f hn], ht⟩) (fun q h => by cases h) d_Mo_isEven_13
  · have hp : A % 2 = 0 := (kx_n0 (by omega)).mp hw
    refine lv_iconst (v := nI 1) hx hb d_Mo_isEven_8 (by decide) ?_
    refine lv_goto hx hb d_Mo_isEven_9 rfl ?_
    exact W.zret hx hb hret rfl (fun t ht _ => ⟨_, rfl, by rw [kq_z_t hp], ht⟩) (fun q h => by cases h) d_Mo_isEven_13
theorem d_Mo_bit_0 : decode b_Mo_bit 0 = .ok (.aload_n 0, 1) := by decide +kernel
theorem d_Mo_bit_1 : decode b_Mo_bit 1 = .ok (.iload_n 1, 1) := by decide +kernel
theorem d_Mo_bit_2 : decode b_Mo_bit 2 = .ok (.bipush 32, 2) := by decide +kernel
theorem d_Mo_bit_4 : decode b_Mo_bit 4 = .ok (.idiv, 1) := by decide +kernel
theorem d_Mo_bit_5 : decode b_Mo_bit 5 = .ok (.iaload, 1) := by decide +kernel
theorem d_Mo_bit_6 : decode b_Mo_bit 6 = .ok (.iload_n 1, 1) := by decide +kernel
theorem d_Mo_bit_7 : decode b_Mo_bit 7 = .ok (.bipush 32, 2) := by decide +kernel
theorem d_Mo_bit_9 : decode b_Mo_bit 9 = .ok (.irem, 1) := by decide +kernel
theorem d_Mo_bit_10 : decode b_Mo_bit 10 = .ok (.iushr, 1) := by decide +kernel
theorem d_Mo_bit_11 : decode b_Mo_bit 11 = .ok (.iconst 1, 1) := by decide +kernel
theorem d_Mo_bit_12 : decode b_Mo_bit 12 = .ok (.iand, 1) := by decide +kernel
theorem d_Mo_bit_13 : decode b_Mo_bit 13 = .ok (.ireturn, 1) := by decide +kernel
theorem kx_su : ∀ n, n < 32 → (((nI n).toUInt32 &&& Int32.toUInt32 31).toBitVec % 32).toNat = n := by decide +kernel
set_option maxHeartbeats 4000000 in
set_option maxRecDepth 100000 in
theorem c_Mo_bit (l : Launch) (H : Heap) (a A b : Nat) (hb8 : b < 256) : Met l y_Mo_bit w_Mo_bit ({ frames := 0, cells := 0, slots := 0, locals := 0 }) (kq_P [.ref a, .int (nI b)] H (fun U => kq_sI U H a 8 A)) (kq_Q (fun v H1 => v = some (.int (nI (A / 2 ^ b % 2))) ∧ H1 = H)) 0 0 (fun _ => False) := by
  refine Met.ofW (cc := b_Mo_bit) (maxL := 2) (ret := (some .int)) (by decide) rfl ?_
  intro p e s m args below meth c s₁ B0 hml hv
  obtain ⟨rfl, hH, hsa⟩ := hv
  have hx := B0.exec
  have hb := B0.bytes
  have hret := B0.returns
  have hts := atoms_spec (ws := w_Mo_bit) B0.pre
  have hown : s.vm.findClass R_Mo = some m.cls := findClass_of_methodNamed B0.named
  have hlocks := B0.notSynchronized
  rw [hH]
  have hl := lv_entry ([.ref a, .int (nI b)]) (n := 2) (Nat.le_of_ble_eq_true rfl)
  rw [lg_entry_eq]
  generalize (lg_sl ([.ref a, .int (nI b)]) ++ List.replicate (2 - (lg_sl ([.ref a, .int (nI b)])).length) Slot.unset).toArray = ls at hl ⊢
  have hl : lv_has ls 2 [(0, .ref a), (1, .int (nI b))] := hl
  have lA := kw_d_lt A (b / 32)
  refine lv_aload_n hx hb d_Mo_bit_0 rfl (lv_at hl 0 rfl) ?_
  refine lv_iload_n hx hb d_Mo_bit_1 rfl (lv_at hl 1 rfl) ?_
  refine lv_bipush (v := nI 32) hx hb d_Mo_bit_2 (by decide) ?_
  refine lv_idiv hx hb d_Mo_bit_4 (by decide) ?_
  refine kq_ri (show nI b / nI 32 = nI (b / 32) from pk_div (a := b) (d := 32) (by omega) (by decide) (by decide)) ?_
  refine kq_iald hx hb (hsa) ((by omega)) (by decide) (rfl) d_Mo_bit_5 ?_
  refine lv_iload_n hx hb d_Mo_bit_6 rfl (lv_at hl 1 rfl) ?_
  refine lv_bipush (v := nI 32) hx hb d_Mo_bit_7 (by decide) ?_
  refine lv_irem hx hb d_Mo_bit_9 (by decide) ?_
  refine kq_ri (show nI b - nI b / nI 32 * nI 32 = nI (b % 32) from pk_rem (a := b) (d := 32) (by omega) (by decide) (by decide)) ?_
  refine lv_iushr (v := nI (kw_d A (b / 32) / 2 ^ (b % 32))) hx hb d_Mo_bit_10 (pk_ushrN (by omega) _ _ (kx_su (b % 32) (Nat.mod_lt _ (by decide)))) ?_
  refine lv_iconst (v := nI 1) hx hb d_Mo_bit_11 (by decide) ?_
  refine lv_iand hx hb d_Mo_bit_12 ?_
  refine kq_ri (show (nI (kw_d A (b / 32) / 2 ^ (b % 32))) &&& (nI 1) = nI (A / 2 ^ b % 2) from (by rw [pk_andN (n := kw_d A (b / 32) / 2 ^ (b % 32)) (m := nI 1) (Nat.lt_of_le_of_lt (Nat.div_le_self _ _) (by omega)) 1 rfl]; exact congrArg nI (kw_bit A b))) ?_
  exact W.iret hx hb hret (fun t ht _ => ⟨_, rfl, rfl, ht⟩) (fun q h => by cases h) d_Mo_bit_13
theorem d_Mo_copy_0 : decode b_Mo_copy 0 = .ok (.aload_n 1, 1) := by decide +kernel
theorem d_Mo_copy_1 : decode b_Mo_copy 1 = .ok (.iconst 0, 1) := by decide +kernel
theorem d_Mo_copy_2 : decode b_Mo_copy 2 = .ok (.aload_n 0, 1) := by decide +kernel
theorem d_Mo_copy_3 : decode b_Mo_copy 3 = .ok (.iconst 0, 1) := by decide +kernel
theorem d_Mo_copy_4 : decode b_Mo_copy 4 = .ok (.bipush 8, 2) := by decide +kernel
theorem d_Mo_copy_6 : decode b_Mo_copy 6 = .ok (.invokestatic 78, 3) := by decide +kernel
theorem d_Mo_copy_9 : decode b_Mo_copy 9 = .ok (.return_, 1) := by decide +kernel
set_option maxHeartbeats 4000000 in
set_option maxRecDepth 100000 in
theorem c_Mo_copy (l : Launch) (H : Heap) (cI : ClassId) (r a R0 A : Nat) (hr : H[r]? = some (kq_I cI 8 R0)) : Met l y_Mo_copy w_Mo_copy ({ frames := 1, cells := 0, slots := 0, locals := 20 }) (kq_P [.ref r, .ref a] H (fun U => ArrOfT U cI .int ∧ kq_sI U H a 8 A)) (kq_Q (fun v H1 => v = none ∧ H1 = kq_set H r (kq_I cI 8 A))) 0 0 (fun q => q = r) := by
  refine Met.ofW (cc := b_Mo_copy) (maxL := 2) (ret := none) (by decide) rfl ?_
  intro p e s m args below meth c s₁ B0 hml hv
  obtain ⟨rfl, hH, hT, hsa⟩ := hv
  have hx := B0.exec
  have hb := B0.bytes
  have hret := B0.returns
  have hts := atoms_spec (ws := w_Mo_copy) B0.pre
  have hown : s.vm.findClass R_Mo = some m.cls := findClass_of_methodNamed B0.named
  have hlocks := B0.notSynchronized
  rw [hH]
  have hl := lv_entry ([.ref r, .ref a]) (n := 2) (Nat.le_of_ble_eq_true rfl)
  rw [lg_entry_eq]
  generalize (lg_sl ([.ref r, .ref a]) ++ List.replicate (2 - (lg_sl ([.ref r, .ref a])).length) Slot.unset).toArray = ls at hl ⊢
  have hl : lv_has ls 2 [(0, .ref r), (1, .ref a)] := hl
  refine lv_aload_n hx hb d_Mo_copy_0 rfl (lv_at hl 1 rfl) ?_
  refine lv_iconst (v := nI 0) hx hb d_Mo_copy_1 (by decide) ?_
  refine lv_aload_n hx hb d_Mo_copy_2 rfl (lv_at hl 0 rfl) ?_
  refine lv_iconst (v := nI 0) hx hb d_Mo_copy_3 (by decide) ?_
  refine lv_bipush (v := nI 8) hx hb d_Mo_copy_4 (by decide) ?_
  refine kq_copyI hx hb (by rw [hml]; exact hl.1.symm) hown (hts _ (List.mem_cons_of_mem _ kt_w462)) (hts _ (List.mem_cons_of_mem _ kt_w225)) (hts _ (List.mem_cons_of_mem _ kt_w224)) (hts _ (List.mem_cons_of_mem _ kt_w7)) hsa hT hr (Nat.le_of_ble_eq_true rfl) (Nat.le_of_ble_eq_true rfl) d_Mo_copy_6 (fun L hL => ?_)
  exact W.vret hx hb hret (fun t ht _ => ⟨_, rfl, rfl, ht⟩) hL d_Mo_copy_9
