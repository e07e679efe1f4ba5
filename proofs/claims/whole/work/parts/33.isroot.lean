/-! KeyCurveModel: isRoot, square (own rows). -/
theorem kx_e4 : (kP + 1) / 2 / 2 = (kP + 1) / 4 ∧ kP + 1 < kw_M 8 ∧ (kP + 1) / 4 < 2 ^ 254 ∧ 1 < kP := by decide +kernel
theorem kx_evenP {y : Nat} (hy : y < kP) (ho : y % 2 = 1) : kw_sub kP y = kp_dif kP kP y := by
  have h8 := kP_M8
  unfold kp_dif kw_sub
  rw [Nat.mod_eq_of_lt hy, show kP + kw_M 8 - y = kP - y + kw_M 8 by omega, Nat.add_mod_right, Nat.mod_eq_of_lt (by omega), Nat.add_mod_left, Nat.mod_eq_of_lt (by omega)]
theorem d_Mo_isRoot_0 : decode b_Mo_isRoot 0 = .ok (.aload_n 0, 1) := by decide +kernel
theorem d_Mo_isRoot_1 : decode b_Mo_isRoot 1 = .ok (.getfield 49, 3) := by decide +kernel
theorem d_Mo_isRoot_4 : decode b_Mo_isRoot 4 = .ok (.getstatic 90, 3) := by decide +kernel
theorem d_Mo_isRoot_7 : decode b_Mo_isRoot 7 = .ok (.aload_n 0, 1) := by decide +kernel
theorem d_Mo_isRoot_8 : decode b_Mo_isRoot 8 = .ok (.getfield 24, 3) := by decide +kernel
theorem d_Mo_isRoot_11 : decode b_Mo_isRoot 11 = .ok (.invokestatic 101, 3) := by decide +kernel
theorem d_Mo_isRoot_14 : decode b_Mo_isRoot 14 = .ok (.pop, 1) := by decide +kernel
theorem d_Mo_isRoot_15 : decode b_Mo_isRoot 15 = .ok (.aload_n 0, 1) := by decide +kernel
theorem d_Mo_isRoot_16 : decode b_Mo_isRoot 16 = .ok (.getfield 49, 3) := by decide +kernel
theorem d_Mo_isRoot_19 : decode b_Mo_isRoot 19 = .ok (.iconst 0, 1) := by decide +kernel
theorem d_Mo_isRoot_20 : decode b_Mo_isRoot 20 = .ok (.invokestatic 111, 3) := by decide +kernel
theorem d_Mo_isRoot_23 : decode b_Mo_isRoot 23 = .ok (.aload_n 0, 1) := by decide +kernel
theorem d_Mo_isRoot_24 : decode b_Mo_isRoot 24 = .ok (.getfield 49, 3) := by decide +kernel
theorem d_Mo_isRoot_27 : decode b_Mo_isRoot 27 = .ok (.iconst 0, 1) := by decide +kernel
theorem d_Mo_isRoot_28 : decode b_Mo_isRoot 28 = .ok (.invokestatic 111, 3) := by decide +kernel
theorem d_Mo_isRoot_31 : decode b_Mo_isRoot 31 = .ok (.aload_n 1, 1) := by decide +kernel
theorem d_Mo_isRoot_32 : decode b_Mo_isRoot 32 = .ok (.aload_n 0, 1) := by decide +kernel
theorem d_Mo_isRoot_33 : decode b_Mo_isRoot 33 = .ok (.getfield 24, 3) := by decide +kernel
theorem d_Mo_isRoot_36 : decode b_Mo_isRoot 36 = .ok (.invokestatic 104, 3) := by decide +kernel
theorem d_Mo_isRoot_39 : decode b_Mo_isRoot 39 = .ok (.sipush 253, 3) := by decide +kernel
theorem d_Mo_isRoot_42 : decode b_Mo_isRoot 42 = .ok (.istore_n 3, 1) := by decide +kernel
theorem d_Mo_isRoot_43 : decode b_Mo_isRoot 43 = .ok (.iload_n 3, 1) := by decide +kernel
theorem d_Mo_isRoot_44 : decode b_Mo_isRoot 44 = .ok (.ifCond .lt 35, 3) := by decide +kernel
theorem d_Mo_isRoot_47 : decode b_Mo_isRoot 47 = .ok (.aload_n 0, 1) := by decide +kernel
theorem d_Mo_isRoot_48 : decode b_Mo_isRoot 48 = .ok (.aload_n 1, 1) := by decide +kernel
theorem d_Mo_isRoot_49 : decode b_Mo_isRoot 49 = .ok (.aload_n 1, 1) := by decide +kernel
theorem d_Mo_isRoot_50 : decode b_Mo_isRoot 50 = .ok (.aload_n 1, 1) := by decide +kernel
theorem d_Mo_isRoot_51 : decode b_Mo_isRoot 51 = .ok (.invokevirtual 125, 3) := by decide +kernel
theorem d_Mo_isRoot_54 : decode b_Mo_isRoot 54 = .ok (.aload_n 0, 1) := by decide +kernel
theorem d_Mo_isRoot_55 : decode b_Mo_isRoot 55 = .ok (.getfield 49, 3) := by decide +kernel
theorem d_Mo_isRoot_58 : decode b_Mo_isRoot 58 = .ok (.iload_n 3, 1) := by decide +kernel
theorem d_Mo_isRoot_59 : decode b_Mo_isRoot 59 = .ok (.invokestatic 145, 3) := by decide +kernel
theorem d_Mo_isRoot_62 : decode b_Mo_isRoot 62 = .ok (.iconst 1, 1) := by decide +kernel
theorem d_Mo_isRoot_63 : decode b_Mo_isRoot 63 = .ok (.if_icmp .ne 10, 3) := by decide +kernel
theorem d_Mo_isRoot_66 : decode b_Mo_isRoot 66 = .ok (.aload_n 0, 1) := by decide +kernel
theorem d_Mo_isRoot_67 : decode b_Mo_isRoot 67 = .ok (.aload_n 1, 1) := by decide +kernel
theorem d_Mo_isRoot_68 : decode b_Mo_isRoot 68 = .ok (.aload_n 1, 1) := by decide +kernel
theorem d_Mo_isRoot_69 : decode b_Mo_isRoot 69 = .ok (.aload_n 2, 1) := by decide +kernel
theorem d_Mo_isRoot_70 : decode b_Mo_isRoot 70 = .ok (.invokevirtual 125, 3) := by decide +kernel
theorem d_Mo_isRoot_73 : decode b_Mo_isRoot 73 = .ok (.iinc 3 (-1), 3) := by decide +kernel
theorem d_Mo_isRoot_76 : decode b_Mo_isRoot 76 = .ok (.goto (-33), 3) := by decide +kernel
theorem d_Mo_isRoot_79 : decode b_Mo_isRoot 79 = .ok (.aload_n 0, 1) := by decide +kernel
theorem d_Mo_isRoot_80 : decode b_Mo_isRoot 80 = .ok (.aload_n 0, 1) := by decide +kernel
theorem d_Mo_isRoot_81 : decode b_Mo_isRoot 81 = .ok (.getfield 43, 3) := by decide +kernel
theorem d_Mo_isRoot_84 : decode b_Mo_isRoot 84 = .ok (.aload_n 1, 1) := by decide +kernel
theorem d_Mo_isRoot_85 : decode b_Mo_isRoot 85 = .ok (.aload_n 1, 1) := by decide +kernel
theorem d_Mo_isRoot_86 : decode b_Mo_isRoot 86 = .ok (.invokevirtual 125, 3) := by decide +kernel
theorem d_Mo_isRoot_89 : decode b_Mo_isRoot 89 = .ok (.aload_n 0, 1) := by decide +kernel
theorem d_Mo_isRoot_90 : decode b_Mo_isRoot 90 = .ok (.getfield 43, 3) := by decide +kernel
theorem d_Mo_isRoot_93 : decode b_Mo_isRoot 93 = .ok (.aload_n 2, 1) := by decide +kernel
theorem d_Mo_isRoot_94 : decode b_Mo_isRoot 94 = .ok (.invokestatic 93, 3) := by decide +kernel
theorem d_Mo_isRoot_97 : decode b_Mo_isRoot 97 = .ok (.ifCond .eq 5, 3) := by decide +kernel
theorem d_Mo_isRoot_100 : decode b_Mo_isRoot 100 = .ok (.iconst 0, 1) := by decide +kernel
theorem d_Mo_isRoot_101 : decode b_Mo_isRoot 101 = .ok (.ireturn, 1) := by decide +kernel
theorem d_Mo_isRoot_102 : decode b_Mo_isRoot 102 = .ok (.aload_n 1, 1) := by decide +kernel
theorem d_Mo_isRoot_103 : decode b_Mo_isRoot 103 = .ok (.invokestatic 149, 3) := by decide +kernel
theorem d_Mo_isRoot_106 : decode b_Mo_isRoot 106 = .ok (.ifCond .ne 12, 3) := by decide +kernel
theorem d_Mo_isRoot_109 : decode b_Mo_isRoot 109 = .ok (.aload_n 1, 1) := by decide +kernel
theorem d_Mo_isRoot_110 : decode b_Mo_isRoot 110 = .ok (.getstatic 90, 3) := by decide +kernel
theorem d_Mo_isRoot_113 : decode b_Mo_isRoot 113 = .ok (.aload_n 1, 1) := by decide +kernel
theorem d_Mo_isRoot_114 : decode b_Mo_isRoot 114 = .ok (.invokestatic 97, 3) := by decide +kernel
theorem d_Mo_isRoot_117 : decode b_Mo_isRoot 117 = .ok (.pop, 1) := by decide +kernel
theorem d_Mo_isRoot_118 : decode b_Mo_isRoot 118 = .ok (.iconst 1, 1) := by decide +kernel
theorem d_Mo_isRoot_119 : decode b_Mo_isRoot 119 = .ok (.ireturn, 1) := by decide +kernel
section
variable {p : Program} {l : Launch} {e : Env} {R : Room} {s : State} {m : MethodId} {args : Array Value} {below : List Frame} {meth : Method} {c : Code} {cells slots : Nat} {Q : State → Prop}
set_option maxHeartbeats 4000000 in
set_option maxRecDepth 100000 in
theorem la_Mo_isRoot (hx : p.tables.exec = Jvm.exec) (hb : c.code = b_Mo_isRoot) (hts : ∀ w ∈ w_Mo_isRoot, w.before args s = true) (hown : s.vm.findClass R_Mo = some m.cls) (hml : c.maxLocals = 4) (hRf : 4 ≤ R.frames) (hRl : 92 ≤ R.locals) {E : ks_E} {mo : Nat} {far : Bool} (hE : ks_ok E) (hO : ks_O E mo far) (hB : ks_B E s) {A : Nat → Nat} (hA : ks_A E A) (hC : ks_C E A s) {r a x : Nat} {v : Nat → Nat} (hr : ks_out E r) (ha : ks_in E a) (hra : r ≠ a) (hr5 : r ≠ mo + 25) (hvx : v (mo + 25) = x)
    (kk : ∀ (w : Nat → Nat) (H : Heap) (ls : Array Slot) (locs : List Loc), ks_W E w H → w r = v a ^ x % kP → (∀ q, q ≠ r → q ≠ mo + 21 → w q = v q) → (∀ q ∈ locs, q.base = r ∨ q.base = mo + 21 ∨ q.base = mo + 23 ∨ q.base = mo + 25) → lv_has ls 4 [(0, .ref mo), (1, .ref r), (2, .ref a)] → W p l e R s m args below meth c H locs 0 0 Q (F0 m 79 ls [])) :
    ∀ (n : Nat) (w : Nat → Nat) (H : Heap) (ls : Array Slot) (locs : List Loc), n ≤ 254 → ks_W E w H → w r = v a ^ (x / 2 ^ n) % kP → (∀ q, q ≠ r → q ≠ mo + 21 → w q = v q) → (∀ q ∈ locs, q.base = r ∨ q.base = mo + 21 ∨ q.base = mo + 23 ∨ q.base = mo + 25) → lv_has ls 4 [(3, .int (kq_dn n)), (0, .ref mo), (1, .ref r), (2, .ref a)] → W p l e R s m args below meth c H locs 0 0 Q (F0 m 43 ls []) := by
  intro n
  induction n with
  | zero =>
    intro w H ls locs hn hW h1 ho hlc hl
    refine lv_iload_n hx hb d_Mo_isRoot_43 rfl (lv_at hl 0 rfl) ?_
    refine lv_if_lt hx hb d_Mo_isRoot_44 rfl (fun hc => ?_) (fun hc => ?_)
    · rw [Nat.pow_zero, Nat.div_one] at h1
      exact kk w H ls locs hW h1 ho hlc (lv_sub hl [1, 2, 3] rfl)
    · exact absurd (by decide) hc
  | succ n ih =>
    intro w H ls locs hn hW h1 ho hlc hl
    have hl : lv_has ls 4 [(3, .int (nI n)), (0, .ref mo), (1, .ref r), (2, .ref a)] := hl
    have hK := hB.1
    have h25 := hO.2.2.1 25 (by decide) (by decide) (by decide)
    have hOo := ks_obj hW hO.1 hO.2.1
    have ha21 := ks_in_ne hE hO ha
    have hr21 := ks_in_ne hE hO (Or.inl hr)
    refine lv_iload_n hx hb d_Mo_isRoot_43 rfl (lv_at hl 0 rfl) ?_
    refine lv_if_lt hx hb d_Mo_isRoot_44 rfl (fun hc => ?_) (fun hc => ?_)
    · exact absurd hc (nI_pos (by omega))
    · refine lv_aload_n hx hb d_Mo_isRoot_47 rfl (lv_at hl 1 rfl) ?_
      refine lv_aload_n hx hb d_Mo_isRoot_48 rfl (lv_at hl 2 rfl) ?_
      refine lv_aload_n hx hb d_Mo_isRoot_49 rfl (lv_at hl 2 rfl) ?_
      refine lv_aload_n hx hb d_Mo_isRoot_50 rfl (lv_at hl 2 rfl) ?_
      refine kq_call (va_runV (As := [.ref r, .ref r, .ref r]) (rest := []) ⟨hx, hb, hml, hown, hts⟩ (c_Mo_times_1 l E A mo far w H hE hA hO hW r r r hr (Or.inl hr) (Or.inl hr)) (cwV 3 hts (kt_inV kt_w499 kt_w496 kt_w498 kt_s13 kt_w5) rfl rfl rfl (by decide +kernel) ⟨Nat.le_trans (Nat.le_of_ble_eq_true rfl) hRf, Nat.le_trans (Nat.le_of_ble_eq_true rfl) hRl⟩) (kq_preV (ks_C_st E A) (hC) (kq_recv hK hOo rfl)) rfl rfl hl.1 rfl (lv_room (Nat.le_of_ble_eq_true rfl)) d_Mo_isRoot_51 ⟨Nat.zero_le _, Nat.zero_le _⟩) (fun v9 H1 L1 hq1 hL1 => ?_)
      obtain ⟨rfl, w1, hW1, e1, o1⟩ := hq1
      refine W.eq (g2 := F0 m 54 ls []) rfl ?_
      have hO1 := ks_obj hW1 hO.1 hO.2.1
      have hs1 := ks_src hE hW1 hB (Or.inl h25)
      rw [o1 (mo + 25) hr5.symm (by omega), ho (mo + 25) hr5.symm (by omega), hvx] at hs1
      have hlc1 := t_lL (free := (fun q => q = r ∨ q = mo + 21 ∨ q = mo + 23 ∨ q = mo + 25)) hlc (fun q z => (hL1 q z).elim Or.inl (fun y => Or.inr (Or.inl y)))
      have ho1 : ∀ q, q ≠ r → q ≠ mo + 21 → w1 q = v q := fun q q1 q2 => by rw [o1 q q1 q2]; exact ho q q1 q2
      refine lv_aload_n hx hb d_Mo_isRoot_54 rfl (lv_at hl 1 rfl) ?_
      refine kq_get hx hb hts kt_F_Mo hown hK hO1 rfl 12 (by decide) kt_w388 rfl d_Mo_isRoot_55 ?_
      refine lv_iload_n hx hb d_Mo_isRoot_58 rfl (lv_at hl 0 rfl) ?_
      refine kq_call (va_runS (As := [.ref (mo + 25), .int (nI n)]) (rest := []) ⟨hx, hb, hml, hown, hts⟩ (c_Mo_bit l H1 (mo + 25) x n (by omega)) (va_cwS 2 hts (kt_inS kt_w528 kt_w526 kt_w527 kt_w5) rfl rfl rfl (by decide +kernel) ⟨Nat.le_trans (Nat.le_of_ble_eq_true rfl) hRf, Nat.le_trans (Nat.le_of_ble_eq_true rfl) hRl⟩) (kq_preS (kq_st_r) (hs1)) rfl rfl hl.1 rfl (lv_room (Nat.le_of_ble_eq_true rfl)) d_Mo_isRoot_59 ⟨Nat.zero_le _, Nat.zero_le _⟩) (fun v9 H9 L2 hq9 hL2 => ?_)
      obtain ⟨rfl, e9⟩ := hq9
      rw [e9]
      clear e9
      refine W.eq (g2 := F0 m 62 ls [.int (nI (x / 2 ^ n % 2))]) rfl ?_
      have hlc2 := t_lL (free := (fun q => q = r ∨ q = mo + 21 ∨ q = mo + 23 ∨ q = mo + 25)) hlc1 (fun q z => (hL2 q z).elim)
      refine lv_iconst (v := nI 1) hx hb d_Mo_isRoot_62 (by decide) ?_
      refine lv_icmp_ne hx hb d_Mo_isRoot_63 rfl (fun hc0 => ?_) (fun hc0 => ?_)
      · have h0 : x / 2 ^ n % 2 = 0 := by
          rcases Nat.mod_two_eq_zero_or_one (x / 2 ^ n) with q | q
          · exact q
          · exact absurd (by rw [q]) hc0
        refine lv_iinc (k := 0) (v := kq_dn n) hx hb d_Mo_isRoot_73 hl rfl (kq_dn_dec n) (by decide) rfl (fun ls hl => ?_)
        have hl : lv_has ls 4 [(3, .int (kq_dn n)), (0, .ref mo), (1, .ref r), (2, .ref a)] := hl
        refine lv_goto hx hb d_Mo_isRoot_76 rfl ?_
        exact ih w1 H1 ls _ (by omega) hW1 (by rw [e1]; exact kp_pow0 h1 h0) ho1 hlc2 (lv_sub hl [0, 1, 2, 3] rfl)
      · have h0 : x / 2 ^ n % 2 = 1 := (kx_n1 (by omega)).mp hc0
        refine lv_aload_n hx hb d_Mo_isRoot_66 rfl (lv_at hl 1 rfl) ?_
        refine lv_aload_n hx hb d_Mo_isRoot_67 rfl (lv_at hl 2 rfl) ?_
        refine lv_aload_n hx hb d_Mo_isRoot_68 rfl (lv_at hl 2 rfl) ?_
        refine lv_aload_n hx hb d_Mo_isRoot_69 rfl (lv_at hl 3 rfl) ?_
        refine kq_call (va_runV (As := [.ref r, .ref r, .ref a]) (rest := []) ⟨hx, hb, hml, hown, hts⟩ (c_Mo_times_1 l E A mo far w1 H1 hE hA hO hW1 r r a hr (Or.inl hr) ha) (cwV 3 hts (kt_inV kt_w499 kt_w496 kt_w498 kt_s13 kt_w5) rfl rfl rfl (by decide +kernel) ⟨Nat.le_trans (Nat.le_of_ble_eq_true rfl) hRf, Nat.le_trans (Nat.le_of_ble_eq_true rfl) hRl⟩) (kq_preV (ks_C_st E A) (hC) (kq_recv hK hO1 rfl)) rfl rfl hl.1 rfl (lv_room (Nat.le_of_ble_eq_true rfl)) d_Mo_isRoot_70 ⟨Nat.zero_le _, Nat.zero_le _⟩) (fun v9 H3 L3 hq3 hL3 => ?_)
        obtain ⟨rfl, w3, hW3, e3, o3⟩ := hq3
        refine W.eq (g2 := F0 m 73 ls []) rfl ?_
        refine lv_iinc (k := 0) (v := kq_dn n) hx hb d_Mo_isRoot_73 hl rfl (kq_dn_dec n) (by decide) rfl (fun ls hl => ?_)
        have hl : lv_has ls 4 [(3, .int (kq_dn n)), (0, .ref mo), (1, .ref r), (2, .ref a)] := hl
        refine lv_goto hx hb d_Mo_isRoot_76 rfl ?_
        exact ih w3 H3 ls _ (by omega) hW3 (by rw [e3, e1, ho1 a hra.symm ha21]; exact kp_pow1 h1 h0) (fun q q1 q2 => by rw [o3 q q1 q2]; exact ho1 q q1 q2) (t_lL (free := (fun q => q = r ∨ q = mo + 21 ∨ q = mo + 23 ∨ q = mo + 25)) hlc2 (fun q z => (hL3 q z).elim Or.inl (fun y => Or.inr (Or.inl y)))) (lv_sub hl [0, 1, 2, 3] rfl)
end
set_option maxHeartbeats 4000000 in
set_option maxRecDepth 100000 in
theorem c_Mo_isRoot (l : Launch) (E : ks_E) (A : Nat → Nat) (mo : Nat) (far : Bool) (v : Nat → Nat) (H : Heap) (hE : ks_ok E) (hA : ks_A E A) (hO : ks_O E mo far) (hW : ks_W E v H) (r a : Nat) (hr : ks_out E r) (ha : ks_in E a) (hla : v a < kP) (hra : r ≠ a) (hr3 : r ≠ mo + 23) (hr5 : r ≠ mo + 25) (ha3 : a ≠ mo + 23) (ha5 : a ≠ mo + 25) : Met l y_Mo_isRoot w_Mo_isRoot ({ frames := 4, cells := 0, slots := 0, locals := 92 }) (kq_P [.ref mo, .ref r, .ref a] H (ks_C E A)) (kq_Q (fun o H1 => o = some (.int (kq_z (decide (kc_root (v a) * kc_root (v a) % kP = v a % kP)))) ∧ ∃ w : Nat → Nat, ks_W E w H1 ∧ (kc_root (v a) * kc_root (v a) % kP = v a % kP → w r = kc_even (kc_root (v a))) ∧ ∀ q, q ≠ r → q ≠ mo + 21 → q ≠ mo + 23 → q ≠ mo + 25 → w q = v q)) 0 0 (fun q => q = r ∨ q = mo + 21 ∨ q = mo + 23 ∨ q = mo + 25) := by
  refine Met.ofW (cc := b_Mo_isRoot) (maxL := 4) (ret := (some .boolean)) (by decide) rfl ?_
  intro p e s m args below meth c s₁ B0 hml hv
  obtain ⟨rfl, hH, hC⟩ := hv
  have hx := B0.exec
  have hb := B0.bytes
  have hret := B0.returns
  have hts := atoms_spec (ws := w_Mo_isRoot) B0.pre
  have hown : s.vm.findClass R_Mo = some m.cls := findClass_of_methodNamed B0.named
  have hlocks := B0.notSynchronized
  rw [hH]
  have hl := lv_entry ([.ref mo, .ref r, .ref a]) (n := 4) (Nat.le_of_ble_eq_true rfl)
  rw [lg_entry_eq]
  generalize (lg_sl ([.ref mo, .ref r, .ref a]) ++ List.replicate (4 - (lg_sl ([.ref mo, .ref r, .ref a])).length) Slot.unset).toArray = ls at hl ⊢
  have hl : lv_has ls 4 [(0, .ref mo), (1, .ref r), (2, .ref a)] := hl
  have hB := hC.1
  have hK := hB.1
  have hT := ks_T hE hB
  have hOo := ks_obj hW hO.1 hO.2.1
  have h23 := hO.2.2.1 23 (by decide) (by decide) (by decide)
  have h25 := hO.2.2.1 25 (by decide) (by decide) (by decide)
  obtain ⟨k1, k2, k3, k4⟩ := kx_e4
  have hlc0 : ∀ q ∈ ([] : List Loc), q.base = r ∨ q.base = mo + 21 ∨ q.base = mo + 23 ∨ q.base = mo + 25 := fun q h => by cases h
  have h1S := hO.2.2.2.2
  have sP := ks_src hE hW hB (Or.inr hA.1.1)
  have lP := ks_lt hE hW (Or.inr hA.1.1)
  have s1 := ks_src hE hW hB (Or.inr h1S.1)
  have l1 := ks_lt hE hW (Or.inr h1S.1)
  rw [ks_cst hW hA.1] at sP lP
  rw [ks_cst hW h1S] at s1 l1
  have r25 := ks_row hW h25
  have l25 := ks_lt hE hW (Or.inl h25)
  have ha21 := ks_in_ne hE hO ha
  have hr21 := ks_in_ne hE hO (Or.inl hr)
  refine lv_aload_n hx hb d_Mo_isRoot_0 rfl (lv_at hl 0 rfl) ?_
  refine kq_get hx hb hts kt_F_Mo hown hK hOo rfl 12 (by decide) kt_w388 rfl d_Mo_isRoot_1 ?_
  refine kq_gets hx hb hts (ks_zat hW hC.2.1) hown kt_w453 d_Mo_isRoot_4 ?_
  refine lv_aload_n hx hb d_Mo_isRoot_7 rfl (lv_at hl 0 rfl) ?_
  refine kq_get hx hb hts kt_F_Mo hown hK hOo rfl 4 (by decide) kt_w380 rfl d_Mo_isRoot_8 ?_
  refine kq_call (va_runS (As := [.ref (mo + 25), .ref (A 0), .ref (mo + 17)]) (rest := []) ⟨hx, hb, hml, hown, hts⟩ (c_Mo_add_1 l H (ks_c E) (mo + 25) (A 0) (mo + 17) (v (mo + 25)) kP 1 l25 lP l1 r25) (va_cwS 3 hts (kt_inS kt_w479 kt_w477 kt_w478 kt_w5) rfl rfl rfl (by decide +kernel) ⟨Nat.le_of_ble_eq_true rfl, Nat.le_of_ble_eq_true rfl⟩) (kq_preS (kq_st_A.both (kq_st_r.both kq_st_r)) (⟨hT, sP, s1⟩)) rfl rfl hl.1 rfl (lv_room (Nat.le_of_ble_eq_true rfl)) d_Mo_isRoot_11 ⟨Nat.zero_le _, Nat.zero_le _⟩) (fun v9 H9 L1 hq9 hL1 => ?_)
  obtain ⟨rfl, rfl⟩ := hq9
  refine W.eq (g2 := F0 m 14 ls [.int (nI ((kP + 1) / kw_M 8))]) rfl ?_
  rw [Nat.mod_eq_of_lt k2]
  have hlc1 := t_lL (free := (fun q => q = r ∨ q = mo + 21 ∨ q = mo + 23 ∨ q = mo + 25)) hlc0 (fun q z => Or.inr (Or.inr (Or.inr (hL1 q z))))
  have hW1 := ks_put hE hW h25 k2
  have hO1 := ks_obj hW1 hO.1 hO.2.1
  have r1 := ks_row hW1 h25
  rw [kq_up_at] at r1
  refine lv_pop hx hb d_Mo_isRoot_14 rfl ?_
  refine lv_aload_n hx hb d_Mo_isRoot_15 rfl (lv_at hl 0 rfl) ?_
  refine kq_get hx hb hts kt_F_Mo hown hK hO1 rfl 12 (by decide) kt_w388 rfl d_Mo_isRoot_16 ?_
  refine lv_iconst (v := nI 0) hx hb d_Mo_isRoot_19 (by decide) ?_
  refine kq_call (va_runS (As := [.ref (mo + 25), .int (nI 0)]) (rest := []) ⟨hx, hb, hml, hown, hts⟩ (c_Mo_half l _ (ks_c E) (mo + 25) (kP + 1) 0 k2 (by decide) r1) (va_cwS 2 hts (kt_inS kt_w517 kt_w515 kt_w516 kt_w5) rfl rfl rfl (by decide +kernel) ⟨Nat.le_of_ble_eq_true rfl, Nat.le_of_ble_eq_true rfl⟩) (kq_preS (kq_st_A) (hT)) rfl rfl hl.1 rfl (lv_room (Nat.le_of_ble_eq_true rfl)) d_Mo_isRoot_20 ⟨Nat.zero_le _, Nat.zero_le _⟩) (fun v9 H9 L2 hq9 hL2 => ?_)
  obtain ⟨rfl, rfl⟩ := hq9
  refine W.eq (g2 := F0 m 23 ls []) rfl ?_
  rw [show (kP + 1 + kw_M 8 * 0) / 2 = (kP + 1) / 2 by rw [Nat.mul_zero, Nat.add_zero]]
  refine kq_rH (kq_set_set _ _ _ _) ?_
  have hlc2 := t_lL (free := (fun q => q = r ∨ q = mo + 21 ∨ q = mo + 23 ∨ q = mo + 25)) hlc1 (fun q z => Or.inr (Or.inr (Or.inr (hL2 q z))))
  have k5 : (kP + 1) / 2 < kw_M 8 := Nat.lt_of_le_of_lt (Nat.div_le_self _ _) k2
  have hW2 := ks_put hE hW h25 k5
  have hO2 := ks_obj hW2 hO.1 hO.2.1
  have r2 := ks_row hW2 h25
  rw [kq_up_at] at r2
  refine lv_aload_n hx hb d_Mo_isRoot_23 rfl (lv_at hl 0 rfl) ?_
  refine kq_get hx hb hts kt_F_Mo hown hK hO2 rfl 12 (by decide) kt_w388 rfl d_Mo_isRoot_24 ?_
  refine lv_iconst (v := nI 0) hx hb d_Mo_isRoot_27 (by decide) ?_
  refine kq_call (va_runS (As := [.ref (mo + 25), .int (nI 0)]) (rest := []) ⟨hx, hb, hml, hown, hts⟩ (c_Mo_half l _ (ks_c E) (mo + 25) ((kP + 1) / 2) 0 k5 (by decide) r2) (va_cwS 2 hts (kt_inS kt_w517 kt_w515 kt_w516 kt_w5) rfl rfl rfl (by decide +kernel) ⟨Nat.le_of_ble_eq_true rfl, Nat.le_of_ble_eq_true rfl⟩) (kq_preS (kq_st_A) (hT)) rfl rfl hl.1 rfl (lv_room (Nat.le_of_ble_eq_true rfl)) d_Mo_isRoot_28 ⟨Nat.zero_le _, Nat.zero_le _⟩) (fun v9 H9 L3 hq9 hL3 => ?_)
  obtain ⟨rfl, rfl⟩ := hq9
  refine W.eq (g2 := F0 m 31 ls []) rfl ?_
  rw [show ((kP + 1) / 2 + kw_M 8 * 0) / 2 = (kP + 1) / 4 by rw [Nat.mul_zero, Nat.add_zero, k1]]
  refine kq_rH (kq_set_set _ _ _ _) ?_
  have hlc3 := t_lL (free := (fun q => q = r ∨ q = mo + 21 ∨ q = mo + 23 ∨ q = mo + 25)) hlc2 (fun q z => Or.inr (Or.inr (Or.inr (hL3 q z))))
  have k6 : (kP + 1) / 4 < kw_M 8 := Nat.lt_of_le_of_lt (Nat.div_le_self _ _) k2
  have hW3 := ks_put hE hW h25 k6
  have hO3 := ks_obj hW3 hO.1 hO.2.1
  have s3 := ks_src hE hW3 hB (Or.inr h1S.1)
  rw [ks_cst hW3 h1S] at s3
  refine lv_aload_n hx hb d_Mo_isRoot_31 rfl (lv_at hl 1 rfl) ?_
  refine lv_aload_n hx hb d_Mo_isRoot_32 rfl (lv_at hl 0 rfl) ?_
  refine kq_get hx hb hts kt_F_Mo hown hK hO3 rfl 4 (by decide) kt_w380 rfl d_Mo_isRoot_33 ?_
  refine kq_call (va_runS (As := [.ref r, .ref (mo + 17)]) (rest := []) ⟨hx, hb, hml, hown, hts⟩ (c_Mo_copy l _ (ks_c E) r (mo + 17) _ 1 (ks_row hW3 hr)) (va_cwS 2 hts (kt_inS kt_w461 kt_w459 kt_w460 kt_w5) rfl rfl rfl (by decide +kernel) ⟨Nat.le_of_ble_eq_true rfl, Nat.le_of_ble_eq_true rfl⟩) (kq_preS (kq_st_A.both kq_st_r) (⟨hT, s3⟩)) rfl rfl hl.1 rfl (lv_room (Nat.le_of_ble_eq_true rfl)) d_Mo_isRoot_36 ⟨Nat.zero_le _, Nat.zero_le _⟩) (fun v9 H9 L4 hq9 hL4 => ?_)
  obtain ⟨rfl, rfl⟩ := hq9
  refine W.eq (g2 := F0 m 39 ls []) rfl ?_
  have hlc4 := t_lL (free := (fun q => q = r ∨ q = mo + 21 ∨ q = mo + 23 ∨ q = mo + 25)) hlc3 (fun q z => Or.inl (hL4 q z))
  have hW4 := ks_put hE hW3 hr (show 1 < kw_M 8 from l1)
  obtain ⟨v4, hv4⟩ : ∃ v4, v4 = va_up (va_up v (mo + 25) ((kP + 1) / 4)) r 1 := ⟨_, rfl⟩
  rw [← hv4] at hW4
  have f1 : v4 r = 1 := by rw [hv4, kq_up_at]
  have f2 : v4 (mo + 25) = (kP + 1) / 4 := by rw [hv4, kq_up_ne hr5.symm, kq_up_at]
  have f3 : v4 a = v a := by rw [hv4, kq_up_ne hra.symm, kq_up_ne ha5]
  refine lv_sipush (v := nI 253) hx hb d_Mo_isRoot_39 (by decide) ?_
  refine lv_istore_n hx hb d_Mo_isRoot_42 rfl hl (by decide) rfl (fun ls hl => ?_)
  have hl : lv_has ls 4 [(3, .int (nI 253)), (0, .ref mo), (1, .ref r), (2, .ref a)] := hl
  refine la_Mo_isRoot hx hb hts hown hml (Nat.le_of_ble_eq_true rfl) (Nat.le_of_ble_eq_true rfl) hE hO hB hA hC (v := v4) (x := (kP + 1) / 4) hr ha hra hr5 f2 (fun w5 H5 ls L5 hW5 h5 ho5 hL5 hl => ?_) 254 _ _ ls _ (Nat.le_refl 254) hW4 (by rw [f1, Nat.div_eq_of_lt k3, Nat.pow_zero, Nat.mod_eq_of_lt k4]) (fun _ _ _ => rfl) hlc4 (lv_sub hl [0, 1, 2, 3] rfl)
  have hy : w5 r = kc_root (v a) := by
    unfold kc_root
    rw [h5, f3, Nat.mod_eq_of_lt hla]
  have hO5 := ks_obj hW5 hO.1 hO.2.1
  refine lv_aload_n hx hb d_Mo_isRoot_79 rfl (lv_at hl 0 rfl) ?_
  refine lv_aload_n hx hb d_Mo_isRoot_80 rfl (lv_at hl 0 rfl) ?_
  refine kq_get hx hb hts kt_F_Mo hown hK hO5 rfl 10 (by decide) kt_w386 rfl d_Mo_isRoot_81 ?_
  refine lv_aload_n hx hb d_Mo_isRoot_84 rfl (lv_at hl 1 rfl) ?_
  refine lv_aload_n hx hb d_Mo_isRoot_85 rfl (lv_at hl 1 rfl) ?_
  refine kq_call (va_runV (As := [.ref (mo + 23), .ref r, .ref r]) (rest := []) ⟨hx, hb, hml, hown, hts⟩ (c_Mo_times_1 l E A mo far w5 H5 hE hA hO hW5 (mo + 23) r r h23 (Or.inl hr) (Or.inl hr)) (cwV 3 hts (kt_inV kt_w499 kt_w496 kt_w498 kt_s13 kt_w5) rfl rfl rfl (by decide +kernel) ⟨Nat.le_of_ble_eq_true rfl, Nat.le_of_ble_eq_true rfl⟩) (kq_preV (ks_C_st E A) (hC) (kq_recv hK hO5 rfl)) rfl rfl hl.1 rfl (lv_room (Nat.le_of_ble_eq_true rfl)) d_Mo_isRoot_86 ⟨Nat.zero_le _, Nat.zero_le _⟩) (fun v9 H6 L6 hq6 hL6 => ?_)
  obtain ⟨rfl, w6, hW6, e6, o6⟩ := hq6
  refine W.eq (g2 := F0 m 89 ls []) rfl ?_
  have hlc6 := t_lL (free := (fun q => q = r ∨ q = mo + 21 ∨ q = mo + 23 ∨ q = mo + 25)) hL5 (fun q z => (hL6 q z).elim (fun y => Or.inr (Or.inr (Or.inl y))) (fun y => Or.inr (Or.inl y)))
  have hO6 := ks_obj hW6 hO.1 hO.2.1
  have s6 := ks_src hE hW6 hB (Or.inl h23)
  have l6 := ks_lt hE hW6 (Or.inl h23)
  have sa6 := ks_src hE hW6 hB ha
  have la6 := ks_lt hE hW6 ha
  have ga : w6 a = v a := by rw [o6 a ha3 ha21, ho5 a hra.symm ha21, f3]
  have gr : w6 r = kc_root (v a) := by rw [o6 r hr3 hr21, hy]
  rw [e6, hy] at s6 l6
  rw [ga] at sa6 la6
  have hkeep : ∀ q, q ≠ r → q ≠ mo + 21 → q ≠ mo + 23 → q ≠ mo + 25 → w6 q = v q := fun q q0 q1 q3 q5 => by rw [o6 q q3 q1, ho5 q q0 q1, hv4, kq_up_ne q0, kq_up_ne q5]
  refine lv_aload_n hx hb d_Mo_isRoot_89 rfl (lv_at hl 0 rfl) ?_
  refine kq_get hx hb hts kt_F_Mo hown hK hO6 rfl 10 (by decide) kt_w386 rfl d_Mo_isRoot_90 ?_
  refine lv_aload_n hx hb d_Mo_isRoot_93 rfl (lv_at hl 2 rfl) ?_
  refine kq_call (va_runS (As := [.ref (mo + 23), .ref a]) (rest := []) ⟨hx, hb, hml, hown, hts⟩ (c_Mo_compare l H6 (mo + 23) a (kc_root (v a) * kc_root (v a) % kP) (v a) l6 la6) (va_cwS 2 hts (kt_inS kt_w465 kt_w463 kt_w464 kt_w5) rfl rfl rfl (by decide +kernel) ⟨Nat.le_of_ble_eq_true rfl, Nat.le_of_ble_eq_true rfl⟩) (kq_preS (kq_st_r.both kq_st_r) (⟨s6, sa6⟩)) rfl rfl hl.1 rfl (lv_room (Nat.le_of_ble_eq_true rfl)) d_Mo_isRoot_94 ⟨Nat.zero_le _, Nat.zero_le _⟩) (fun v9 H9 L7 hq9 hL7 => ?_)
  obtain ⟨rfl, e9⟩ := hq9
  rw [e9]
  clear e9
  refine W.eq (g2 := F0 m 97 ls [.int (kx_cmp (kc_root (v a) * kc_root (v a) % kP) (v a))]) rfl ?_
  have hlc7 := t_lL (free := (fun q => q = r ∨ q = mo + 21 ∨ q = mo + 23 ∨ q = mo + 25)) hlc6 (fun q z => (hL7 q z).elim)
  refine lv_if_eq hx hb d_Mo_isRoot_97 rfl (fun hcc => ?_) (fun hcc => ?_)
  · have hR : kc_root (v a) * kc_root (v a) % kP = v a % kP := by
      rw [Nat.mod_eq_of_lt hla]
      exact kx_cmp_0.mp hcc
    have sr6 := ks_src hE hW6 hB (Or.inl hr)
    have lr6 := ks_lt hE hW6 (Or.inl hr)
    have rr6 := ks_row hW6 hr
    rw [gr] at sr6 lr6 rr6
    refine lv_aload_n hx hb d_Mo_isRoot_102 rfl (lv_at hl 1 rfl) ?_
    refine kq_call (va_runS (As := [.ref r]) (rest := []) ⟨hx, hb, hml, hown, hts⟩ (c_Mo_isEven l H6 r (kc_root (v a))) (va_cwS 1 hts (kt_inS kt_w531 kt_w529 kt_w530 kt_w5) rfl rfl rfl (by decide +kernel) ⟨Nat.le_of_ble_eq_true rfl, Nat.le_of_ble_eq_true rfl⟩) (kq_preS (kq_st_r) (sr6)) rfl rfl hl.1 rfl (lv_room (Nat.le_of_ble_eq_true rfl)) d_Mo_isRoot_103 ⟨Nat.zero_le _, Nat.zero_le _⟩) (fun v9 H9 L8 hq9 hL8 => ?_)
    obtain ⟨rfl, e9⟩ := hq9
    rw [e9]
    clear e9
    refine W.eq (g2 := F0 m 106 ls [.int (kq_z (decide (kc_root (v a) % 2 = 0)))]) rfl ?_
    have hlc8 := t_lL (free := (fun q => q = r ∨ q = mo + 21 ∨ q = mo + 23 ∨ q = mo + 25)) hlc7 (fun q z => (hL8 q z).elim)
    refine lv_if_ne hx hb d_Mo_isRoot_106 rfl (fun he => ?_) (fun he => ?_)
    · refine lv_iconst (v := nI 1) hx hb d_Mo_isRoot_118 (by decide) ?_
      have hev := kq_z_ne.mp he
      exact W.zret hx hb hret rfl (fun t ht _ => ⟨_, rfl, by rw [kq_z_t hR], w6, by rw [ht]; exact hW6, fun _ => by rw [gr]; unfold kc_even; rw [if_neg (by omega)], hkeep⟩) hlc8 d_Mo_isRoot_119
    · have hev := kq_z_eq.mp he
      have hyl : kc_root (v a) < kP := Nat.mod_lt _ (by omega)
      have sP6 := ks_src hE hW6 hB (Or.inr hA.1.1)
      rw [ks_cst hW6 hA.1] at sP6
      refine lv_aload_n hx hb d_Mo_isRoot_109 rfl (lv_at hl 1 rfl) ?_
      refine kq_gets hx hb hts (ks_zat hW6 hC.2.1) hown kt_w453 d_Mo_isRoot_110 ?_
      refine lv_aload_n hx hb d_Mo_isRoot_113 rfl (lv_at hl 1 rfl) ?_
      refine kq_call (va_runS (As := [.ref r, .ref (A 0), .ref r]) (rest := []) ⟨hx, hb, hml, hown, hts⟩ (c_Mo_sub l H6 (ks_c E) r (A 0) r (kc_root (v a)) kP (kc_root (v a)) lr6 lP lr6 rr6) (va_cwS 3 hts (kt_inS kt_w475 kt_w473 kt_w474 kt_w5) rfl rfl rfl (by decide +kernel) ⟨Nat.le_of_ble_eq_true rfl, Nat.le_of_ble_eq_true rfl⟩) (kq_preS (kq_st_A.both (kq_st_r.both kq_st_r)) (⟨hT, sP6, sr6⟩)) rfl rfl hl.1 rfl (lv_room (Nat.le_of_ble_eq_true rfl)) d_Mo_isRoot_114 ⟨Nat.zero_le _, Nat.zero_le _⟩) (fun v9 H9 L9 hq9 hL9 => ?_)
      obtain ⟨rfl, rfl⟩ := hq9
      refine W.eq (g2 := F0 m 117 ls [.int (nI (18446744073709551616 - (if kP < kc_root (v a) then 1 else 0)))]) rfl ?_
      refine lv_pop hx hb d_Mo_isRoot_117 rfl ?_
      refine lv_iconst (v := nI 1) hx hb d_Mo_isRoot_118 (by decide) ?_
      exact W.zret hx hb hret rfl (fun t ht _ => ⟨_, rfl, by rw [kq_z_t hR], _, by rw [ht]; exact ks_put hE hW6 hr (kw_sub_lt kP (kc_root (v a))), fun _ => by rw [kq_up_at, kx_evenP hyl (by omega)]; unfold kc_even; rw [if_pos (by omega)], fun q q0 q1 q3 q5 => by rw [kq_up_ne q0]; exact hkeep q q0 q1 q3 q5⟩) (t_lL (free := (fun q => q = r ∨ q = mo + 21 ∨ q = mo + 23 ∨ q = mo + 25)) hlc8 (fun q z => Or.inl (hL9 q z))) d_Mo_isRoot_119
  · refine lv_iconst (v := nI 0) hx hb d_Mo_isRoot_100 (by decide) ?_
    have hR : ¬ kc_root (v a) * kc_root (v a) % kP = v a % kP := by
      rw [Nat.mod_eq_of_lt hla]
      exact fun q => hcc (kx_cmp_0.mpr q)
    exact W.zret hx hb hret rfl (fun t ht _ => ⟨_, rfl, by rw [kq_z_f hR], w6, by rw [ht]; exact hW6, fun q => absurd q hR, hkeep⟩) hlc7 d_Mo_isRoot_101
theorem d_Mo_square_0 : decode b_Mo_square 0 = .ok (.aload_n 0, 1) := by decide +kernel
theorem d_Mo_square_1 : decode b_Mo_square 1 = .ok (.aload_n 0, 1) := by decide +kernel
theorem d_Mo_square_2 : decode b_Mo_square 2 = .ok (.getfield 58, 3) := by decide +kernel
theorem d_Mo_square_5 : decode b_Mo_square 5 = .ok (.aload_n 1, 1) := by decide +kernel
theorem d_Mo_square_6 : decode b_Mo_square 6 = .ok (.aload_n 1, 1) := by decide +kernel
theorem d_Mo_square_7 : decode b_Mo_square 7 = .ok (.invokevirtual 125, 3) := by decide +kernel
theorem d_Mo_square_10 : decode b_Mo_square 10 = .ok (.aload_n 0, 1) := by decide +kernel
theorem d_Mo_square_11 : decode b_Mo_square 11 = .ok (.aload_n 0, 1) := by decide +kernel
theorem d_Mo_square_12 : decode b_Mo_square 12 = .ok (.getfield 58, 3) := by decide +kernel
theorem d_Mo_square_15 : decode b_Mo_square 15 = .ok (.aload_n 0, 1) := by decide +kernel
theorem d_Mo_square_16 : decode b_Mo_square 16 = .ok (.getfield 58, 3) := by decide +kernel
theorem d_Mo_square_19 : decode b_Mo_square 19 = .ok (.aload_n 1, 1) := by decide +kernel
theorem d_Mo_square_20 : decode b_Mo_square 20 = .ok (.invokevirtual 125, 3) := by decide +kernel
theorem d_Mo_square_23 : decode b_Mo_square 23 = .ok (.iconst 0, 1) := by decide +kernel
theorem d_Mo_square_24 : decode b_Mo_square 24 = .ok (.istore_n 2, 1) := by decide +kernel
theorem d_Mo_square_25 : decode b_Mo_square 25 = .ok (.iload_n 2, 1) := by decide +kernel
theorem d_Mo_square_26 : decode b_Mo_square 26 = .ok (.bipush 8, 2) := by decide +kernel
theorem d_Mo_square_28 : decode b_Mo_square 28 = .ok (.if_icmp .ge 25, 3) := by decide +kernel
theorem d_Mo_square_31 : decode b_Mo_square 31 = .ok (.aload_n 0, 1) := by decide +kernel
theorem d_Mo_square_32 : decode b_Mo_square 32 = .ok (.getfield 46, 3) := by decide +kernel
theorem d_Mo_square_35 : decode b_Mo_square 35 = .ok (.iload_n 2, 1) := by decide +kernel
theorem d_Mo_square_36 : decode b_Mo_square 36 = .ok (.iload_n 2, 1) := by decide +kernel
theorem d_Mo_square_37 : decode b_Mo_square 37 = .ok (.ifCond .ne 8, 3) := by decide +kernel
theorem d_Mo_square_40 : decode b_Mo_square 40 = .ok (.bipush 7, 2) := by decide +kernel
theorem d_Mo_square_42 : decode b_Mo_square 42 = .ok (.goto 4, 3) := by decide +kernel
theorem d_Mo_square_45 : decode b_Mo_square 45 = .ok (.iconst 0, 1) := by decide +kernel
theorem d_Mo_square_46 : decode b_Mo_square 46 = .ok (.iastore, 1) := by decide +kernel
theorem d_Mo_square_47 : decode b_Mo_square 47 = .ok (.iinc 2 1, 3) := by decide +kernel
theorem d_Mo_square_50 : decode b_Mo_square 50 = .ok (.goto (-25), 3) := by decide +kernel
theorem d_Mo_square_53 : decode b_Mo_square 53 = .ok (.aload_n 0, 1) := by decide +kernel
theorem d_Mo_square_54 : decode b_Mo_square 54 = .ok (.getfield 58, 3) := by decide +kernel
theorem d_Mo_square_57 : decode b_Mo_square 57 = .ok (.aload_n 0, 1) := by decide +kernel
theorem d_Mo_square_58 : decode b_Mo_square 58 = .ok (.getfield 58, 3) := by decide +kernel
theorem d_Mo_square_61 : decode b_Mo_square 61 = .ok (.aload_n 0, 1) := by decide +kernel
theorem d_Mo_square_62 : decode b_Mo_square 62 = .ok (.getfield 46, 3) := by decide +kernel
theorem d_Mo_square_65 : decode b_Mo_square 65 = .ok (.invokestatic 129, 3) := by decide +kernel
theorem d_Mo_square_68 : decode b_Mo_square 68 = .ok (.return_, 1) := by decide +kernel
section
variable {p : Program} {l : Launch} {e : Env} {R : Room} {s : State} {m : MethodId} {args : Array Value} {below : List Frame} {meth : Method} {c : Code} {cells slots : Nat} {Q : State → Prop}
set_option maxHeartbeats 4000000 in
set_option maxRecDepth 100000 in
theorem la_Mo_square (hx : p.tables.exec = Jvm.exec) (hb : c.code = b_Mo_square) (hts : ∀ w ∈ w_Mo_square, w.before args s = true) (hown : s.vm.findClass R_Mo = some m.cls) {E : ks_E} {mo : Nat} {far : Bool} (hE : ks_ok E) (hO : ks_O E mo far) (hB : ks_B E s) {v : Nat → Nat}
    (kk : ∀ (w : Nat → Nat) (H : Heap) (ls : Array Slot) (locs : List Loc), ks_W E w H → w (mo + 24) = 7 → (∀ q, q ≠ mo + 24 → w q = v q) → (∀ q ∈ locs, q.base = mo + 21 ∨ q.base = mo + 24 ∨ q.base = mo + 28) → lv_has ls 3 [(0, .ref mo)] → W p l e R s m args below meth c H locs 0 0 Q (F0 m 53 ls [])) :
    ∀ (n i : Nat) (w : Nat → Nat) (H : Heap) (ls : Array Slot) (locs : List Loc), i + n = 8 → ks_W E w H → w (mo + 24) % kw_M i = (if i = 0 then 0 else 7) → (∀ q, q ≠ mo + 24 → w q = v q) → (∀ q ∈ locs, q.base = mo + 21 ∨ q.base = mo + 24 ∨ q.base = mo + 28) → lv_has ls 3 [(2, .int (nI i)), (0, .ref mo)] → W p l e R s m args below meth c H locs 0 0 Q (F0 m 25 ls []) := by
  intro n
  induction n with
  | zero =>
    intro i w H ls locs hn hW h1 ho hlc hl
    obtain rfl : i = 8 := by omega
    refine lv_iload_n hx hb d_Mo_square_25 rfl (lv_at hl 0 rfl) ?_
    refine lv_bipush (v := nI 8) hx hb d_Mo_square_26 (by decide) ?_
    refine lv_icmp_ge hx hb d_Mo_square_28 rfl (fun hc => ?_) (fun hc => ?_)
    · rw [Nat.mod_eq_of_lt (ks_lt hE hW (Or.inl (hO.2.2.1 24 (by decide) (by decide) (by decide)))), if_neg (by decide)] at h1
      exact kk w H ls locs hW h1 ho hlc (lv_sub hl [1] rfl)
    · exact absurd (nI_le (Nat.le_refl 8) (by decide)) hc
  | succ n ih =>
    intro i w H ls locs hn hW h1 ho hlc hl
    have hi : i < 8 := by omega
    have hK := hB.1
    have hT := ks_T hE hB
    have h24 := hO.2.2.1 24 (by decide) (by decide) (by decide)
    have hOo := ks_obj hW hO.1 hO.2.1
    have hrow := ks_row hW h24
    refine lv_iload_n hx hb d_Mo_square_25 rfl (lv_at hl 0 rfl) ?_
    refine lv_bipush (v := nI 8) hx hb d_Mo_square_26 (by decide) ?_
    refine lv_icmp_ge hx hb d_Mo_square_28 rfl (fun hc => ?_) (fun hc => ?_)
    · exact absurd hc (nI_ge hi (by decide))
    · refine lv_aload_n hx hb d_Mo_square_31 rfl (lv_at hl 1 rfl) ?_
      refine kq_get hx hb hts kt_F_Mo hown hK hOo rfl 11 (by decide) kt_w387 rfl d_Mo_square_32 ?_
      refine lv_iload_n hx hb d_Mo_square_35 rfl (lv_at hl 0 rfl) ?_
      refine lv_iload_n hx hb d_Mo_square_36 rfl (lv_at hl 0 rfl) ?_
      refine lv_if_ne hx hb d_Mo_square_37 rfl (fun hk0 => ?_) (fun hk0 => ?_)
      · have k0 : ¬ i = 0 := fun q => hk0 (by rw [q]; decide)
        refine lv_iconst (v := nI 0) hx hb d_Mo_square_45 (by decide) ?_
        refine kq_iast hx hb (hT) (hrow) (hi) (by decide) ((by decide)) d_Mo_square_46 ?_
        refine lv_iinc (k := 0) (v := nI (i + 1)) hx hb d_Mo_square_47 hl rfl (kq_inc i) (by decide) rfl (fun ls hl => ?_)
        have hl : lv_has ls 3 [(2, .int (nI (i + 1))), (0, .ref mo)] := hl
        refine lv_goto hx hb d_Mo_square_50 rfl ?_
        refine ih (i + 1) _ _ ls _ (by omega) (ks_put hE hW h24 (kw_s_lt (ks_lt hE hW (Or.inl h24)) hi (show 0 < 4294967296 by decide))) ?_ (fun q q1 => by rw [kq_up_ne q1]; exact ho q q1) (t_lc (free := (fun q => q = mo + 21 ∨ q = mo + 24 ∨ q = mo + 28)) hlc (Or.inr (Or.inl rfl))) (lv_sub hl [0, 1] rfl)
        rw [kq_up_at, kw_s_lo _ _ _ (by decide), h1, if_neg (Nat.succ_ne_zero i), if_neg k0, Nat.mul_zero]
      · have k0 : i = 0 := (kx_n0 (by omega)).mp hk0
        refine lv_bipush (v := nI 7) hx hb d_Mo_square_40 (by decide) ?_
        refine lv_goto hx hb d_Mo_square_42 rfl ?_
        refine kq_iast hx hb (hT) (hrow) (hi) (by decide) ((by decide)) d_Mo_square_46 ?_
        refine lv_iinc (k := 0) (v := nI (i + 1)) hx hb d_Mo_square_47 hl rfl (kq_inc i) (by decide) rfl (fun ls hl => ?_)
        have hl : lv_has ls 3 [(2, .int (nI (i + 1))), (0, .ref mo)] := hl
        refine lv_goto hx hb d_Mo_square_50 rfl ?_
        refine ih (i + 1) _ _ ls _ (by omega) (ks_put hE hW h24 (kw_s_lt (ks_lt hE hW (Or.inl h24)) hi (show 7 < 4294967296 by decide))) ?_ (fun q q1 => by rw [kq_up_ne q1]; exact ho q q1) (t_lc (free := (fun q => q = mo + 21 ∨ q = mo + 24 ∨ q = mo + 28)) hlc (Or.inr (Or.inl rfl))) (lv_sub hl [0, 1] rfl)
        rw [kq_up_at, kw_s_lo _ _ _ (by decide), h1, if_neg (Nat.succ_ne_zero i), if_pos k0, k0, kw_M_0]
end
set_option maxHeartbeats 4000000 in
set_option maxRecDepth 100000 in
theorem c_Mo_square (l : Launch) (E : ks_E) (A : Nat → Nat) (mo : Nat) (far : Bool) (v : Nat → Nat) (H : Heap) (hE : ks_ok E) (hA : ks_A E A) (hO : ks_O E mo far) (hW : ks_W E v H) (a : Nat) (ha : ks_in E a) (ha4 : a ≠ mo + 24) (ha8 : a ≠ mo + 28) : Met l y_Mo_square w_Mo_square ({ frames := 4, cells := 0, slots := 0, locals := 92 }) (kq_P [.ref mo, .ref a] H (ks_C E A)) (kq_Q (fun o H1 => o = none ∧ ∃ w : Nat → Nat, ks_W E w H1 ∧ w (mo + 28) = kc_sq (v a) ∧ ∀ q, q ≠ mo + 21 → q ≠ mo + 24 → q ≠ mo + 28 → w q = v q)) 0 0 (fun q => q = mo + 21 ∨ q = mo + 24 ∨ q = mo + 28) := by
  refine Met.ofW (cc := b_Mo_square) (maxL := 3) (ret := none) (by decide) rfl ?_
  intro p e s m args below meth c s₁ B0 hml hv
  obtain ⟨rfl, hH, hC⟩ := hv
  have hx := B0.exec
  have hb := B0.bytes
  have hret := B0.returns
  have hts := atoms_spec (ws := w_Mo_square) B0.pre
  have hown : s.vm.findClass R_Mo = some m.cls := findClass_of_methodNamed B0.named
  have hlocks := B0.notSynchronized
  rw [hH]
  have hl := lv_entry ([.ref mo, .ref a]) (n := 3) (Nat.le_of_ble_eq_true rfl)
  rw [lg_entry_eq]
  generalize (lg_sl ([.ref mo, .ref a]) ++ List.replicate (3 - (lg_sl ([.ref mo, .ref a])).length) Slot.unset).toArray = ls at hl ⊢
  have hl : lv_has ls 3 [(0, .ref mo), (1, .ref a)] := hl
  have hB := hC.1
  have hK := hB.1
  have hT := ks_T hE hB
  have hOo := ks_obj hW hO.1 hO.2.1
  have h24 := hO.2.2.1 24 (by decide) (by decide) (by decide)
  have h28 := hO.2.2.1 28 (by decide) (by decide) (by decide)
  have ha21 := ks_in_ne hE hO ha
  have hlc0 : ∀ q ∈ ([] : List Loc), q.base = mo + 21 ∨ q.base = mo + 24 ∨ q.base = mo + 28 := fun q h => by cases h
  refine lv_aload_n hx hb d_Mo_square_0 rfl (lv_at hl 0 rfl) ?_
  refine lv_aload_n hx hb d_Mo_square_1 rfl (lv_at hl 0 rfl) ?_
  refine kq_get hx hb hts kt_F_Mo hown hK hOo rfl 15 (by decide) kt_w391 rfl d_Mo_square_2 ?_
  refine lv_aload_n hx hb d_Mo_square_5 rfl (lv_at hl 1 rfl) ?_
  refine lv_aload_n hx hb d_Mo_square_6 rfl (lv_at hl 1 rfl) ?_
  refine kq_call (va_runV (As := [.ref (mo + 28), .ref a, .ref a]) (rest := []) ⟨hx, hb, hml, hown, hts⟩ (c_Mo_times_1 l E A mo far v H hE hA hO hW (mo + 28) a a h28 ha ha) (cwV 3 hts (kt_inV kt_w499 kt_w496 kt_w498 kt_s13 kt_w5) rfl rfl rfl (by decide +kernel) ⟨Nat.le_of_ble_eq_true rfl, Nat.le_of_ble_eq_true rfl⟩) (kq_preV (ks_C_st E A) (hC) (kq_recv hK hOo rfl)) rfl rfl hl.1 rfl (lv_room (Nat.le_of_ble_eq_true rfl)) d_Mo_square_7 ⟨Nat.zero_le _, Nat.zero_le _⟩) (fun v9 H1 L1 hq1 hL1 => ?_)
  obtain ⟨rfl, w1, hW1, e1, o1⟩ := hq1
  refine W.eq (g2 := F0 m 10 ls []) rfl ?_
  have hO1 := ks_obj hW1 hO.1 hO.2.1
  have hlc1 := t_lL (free := (fun q => q = mo + 21 ∨ q = mo + 24 ∨ q = mo + 28)) hlc0 (fun q z => (hL1 q z).elim (fun y => Or.inr (Or.inr y)) Or.inl)
  refine lv_aload_n hx hb d_Mo_square_10 rfl (lv_at hl 0 rfl) ?_
  refine lv_aload_n hx hb d_Mo_square_11 rfl (lv_at hl 0 rfl) ?_
  refine kq_get hx hb hts kt_F_Mo hown hK hO1 rfl 15 (by decide) kt_w391 rfl d_Mo_square_12 ?_
  refine lv_aload_n hx hb d_Mo_square_15 rfl (lv_at hl 0 rfl) ?_
  refine kq_get hx hb hts kt_F_Mo hown hK hO1 rfl 15 (by decide) kt_w391 rfl d_Mo_square_16 ?_
  refine lv_aload_n hx hb d_Mo_square_19 rfl (lv_at hl 1 rfl) ?_
  refine kq_call (va_runV (As := [.ref (mo + 28), .ref (mo + 28), .ref a]) (rest := []) ⟨hx, hb, hml, hown, hts⟩ (c_Mo_times_1 l E A mo far w1 H1 hE hA hO hW1 (mo + 28) (mo + 28) a h28 (Or.inl h28) ha) (cwV 3 hts (kt_inV kt_w499 kt_w496 kt_w498 kt_s13 kt_w5) rfl rfl rfl (by decide +kernel) ⟨Nat.le_of_ble_eq_true rfl, Nat.le_of_ble_eq_true rfl⟩) (kq_preV (ks_C_st E A) (hC) (kq_recv hK hO1 rfl)) rfl rfl hl.1 rfl (lv_room (Nat.le_of_ble_eq_true rfl)) d_Mo_square_20 ⟨Nat.zero_le _, Nat.zero_le _⟩) (fun v9 H2 L2 hq2 hL2 => ?_)
  obtain ⟨rfl, w2, hW2, e2, o2⟩ := hq2
  refine W.eq (g2 := F0 m 23 ls []) rfl ?_
  have hlc2 := t_lL (free := (fun q => q = mo + 21 ∨ q = mo + 24 ∨ q = mo + 28)) hlc1 (fun q z => (hL2 q z).elim (fun y => Or.inr (Or.inr y)) Or.inl)
  rw [e1, o1 a ha8 ha21] at e2
  refine lv_iconst (v := nI 0) hx hb d_Mo_square_23 (by decide) ?_
  refine lv_istore_n hx hb d_Mo_square_24 rfl hl (by decide) rfl (fun ls hl => ?_)
  have hl : lv_has ls 3 [(2, .int (nI 0)), (0, .ref mo), (1, .ref a)] := hl
  refine la_Mo_square hx hb hts hown hE hO hB (v := w2) (fun w3 H3 ls L3 hW3 h3 ho3 hL3 hl => ?_) 8 0 _ _ ls _ rfl hW2 (by rw [kw_M_0, Nat.mod_one, if_pos rfl]) (fun _ _ => rfl) hlc2 (lv_sub hl [0, 1] rfl)
  have hO3 := ks_obj hW3 hO.1 hO.2.1
  have g28 : w3 (mo + 28) = v a * v a % kP * v a % kP := by rw [ho3 (mo + 28) (by omega), e2]
  refine lv_aload_n hx hb d_Mo_square_53 rfl (lv_at hl 0 rfl) ?_
  refine kq_get hx hb hts kt_F_Mo hown hK hO3 rfl 15 (by decide) kt_w391 rfl d_Mo_square_54 ?_
  refine lv_aload_n hx hb d_Mo_square_57 rfl (lv_at hl 0 rfl) ?_
  refine kq_get hx hb hts kt_F_Mo hown hK hO3 rfl 15 (by decide) kt_w391 rfl d_Mo_square_58 ?_
  refine lv_aload_n hx hb d_Mo_square_61 rfl (lv_at hl 0 rfl) ?_
  refine kq_get hx hb hts kt_F_Mo hown hK hO3 rfl 11 (by decide) kt_w387 rfl d_Mo_square_62 ?_
  refine kq_call (va_runS (As := [.ref (mo + 28), .ref (mo + 28), .ref (mo + 24)]) (rest := []) ⟨hx, hb, hml, hown, hts⟩ (c_Mo_plus_1 l E A w3 H3 hE hA hW3 (mo + 28) (mo + 28) (mo + 24) h28 (Or.inl h28) (Or.inl h24) (by rw [g28]; exact Nat.mod_lt _ (by decide)) (by rw [h3]; decide)) (va_cwS 3 hts (kt_inS kt_w558 kt_w556 kt_w557 kt_w5) rfl rfl rfl (by decide +kernel) ⟨Nat.le_of_ble_eq_true rfl, Nat.le_of_ble_eq_true rfl⟩) (kq_preS (ks_C_st E A) (hC)) rfl rfl hl.1 rfl (lv_room (Nat.le_of_ble_eq_true rfl)) d_Mo_square_65 ⟨Nat.zero_le _, Nat.zero_le _⟩) (fun v9 H4 L4 hq4 hL4 => ?_)
  obtain ⟨rfl, hW4⟩ := hq4
  refine W.eq (g2 := F0 m 68 ls []) rfl ?_
  refine W.vret hx hb hret (fun t ht _ => ⟨_, rfl, rfl, ?_⟩) (t_lL (free := (fun q => q = mo + 21 ∨ q = mo + 24 ∨ q = mo + 28)) hL3 (fun q z => Or.inr (Or.inr (hL4 q z)))) d_Mo_square_68
  rw [ht]
  refine ⟨_, hW4, ?_, fun q q1 q2 q3 => ?_⟩
  · rw [kq_up_at, g28, h3]
    rfl
  · rw [kq_up_ne q3, ho3 q q2, o2 q q3 q1, o1 q q3 q1]
