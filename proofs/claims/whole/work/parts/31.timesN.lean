/-! KeyCurveModel: timesN (own rows). -/
theorem kN_M8 : kN < kw_M 8 ∧ kw_M 8 < 2 * kN := by decide +kernel
theorem kx_nstep {t bit : Nat} (ht : t < kN) (hb : bit < 2) : (t + t) % kw_M 8 + bit < kw_M 8 ∧ (if (t + t) / kw_M 8 = 1 ∨ kN ≤ (t + t) % kw_M 8 + bit then kw_sub ((t + t) % kw_M 8 + bit) kN else (t + t) % kw_M 8 + bit) = (2 * t + bit) % kN := by
  have hp : kN = 115792089237316195423570985008687907852837564279074904382605163141518161494337 := rfl
  unfold kw_sub
  rw [kw_M_8]
  rw [hp] at ht ⊢
  refine ⟨by omega, ?_⟩
  have e : (2 * t + bit) % 115792089237316195423570985008687907852837564279074904382605163141518161494337 = if 2 * t + bit < 115792089237316195423570985008687907852837564279074904382605163141518161494337 then 2 * t + bit else 2 * t + bit - 115792089237316195423570985008687907852837564279074904382605163141518161494337 := by
    split
    · rename_i q
      exact Nat.mod_eq_of_lt q
    · rw [Nat.mod_eq_sub_mod (by omega), Nat.mod_eq_of_lt (by omega)]
  rw [e]
  rcases Nat.lt_or_ge (t + t) 115792089237316195423570985008687907853269984665640564039457584007913129639936 with q | q
  · rw [Nat.mod_eq_of_lt q, Nat.div_eq_of_lt q]
    split
    · rw [if_neg (by omega), show t + t + bit + 115792089237316195423570985008687907853269984665640564039457584007913129639936 - 115792089237316195423570985008687907852837564279074904382605163141518161494337 = 2 * t + bit - 115792089237316195423570985008687907852837564279074904382605163141518161494337 + 115792089237316195423570985008687907853269984665640564039457584007913129639936 by omega, Nat.add_mod_right, Nat.mod_eq_of_lt (by omega)]
    · rw [if_pos (by omega)]
      omega
  · rw [Nat.mod_eq_sub_mod q, Nat.mod_eq_of_lt (show t + t - 115792089237316195423570985008687907853269984665640564039457584007913129639936 < 115792089237316195423570985008687907853269984665640564039457584007913129639936 by omega), if_pos (Or.inl (by omega)), if_neg (by omega), Nat.mod_eq_of_lt (by omega)]
    omega
theorem kx_top7 {t : Nat} (ht : t < kw_M 8) : kw_d t 7 / 2 ^ 31 = (t + t) / kw_M 8 := by
  have h7 : kw_M 7 = 26959946667150639794667015087019630673637144422540572481103610249216 := by decide +kernel
  unfold kw_d
  rw [h7]
  rw [kw_M_8] at *
  omega
theorem kx_nbit (V n N : Nat) : (2 * (V / 2 ^ (n + 1) % N) + V / 2 ^ n % 2) % N = V / 2 ^ n % N := by
  have h := kp_bit V n
  have e := Nat.div_add_mod (V / 2 ^ (n + 1)) N
  generalize V / 2 ^ n = x at *
  generalize V / 2 ^ (n + 1) = y at *
  have e2 : x = 2 * (y % N) + x % 2 + N * (2 * (y / N)) := by
    have : N * (2 * (y / N)) = 2 * (N * (y / N)) := by rw [Nat.mul_left_comm]
    omega
  rw [e2, Nat.add_mul_mod_self_left, ← e2]
theorem kx_or1 {x bit : Nat} (hx : x < 4294967296) (he : x % 2 = 0) (hb : bit < 2) : nI x ||| nI bit = nI (x + bit) := by
  rw [kx_or hx (by omega)]
  congr 1
  have h := Nat.two_pow_add_eq_or_of_lt (i := 1) (b := bit) (by omega) (x / 2)
  rw [show 2 ^ 1 * (x / 2) = x by omega] at h
  exact h.symm
theorem kx_even (t : Nat) : kw_d ((t + t) % kw_M 8) 0 % 2 = 0 := by
  rw [kw_d_0, kw_M_8]
  omega
theorem d_Mo_timesN_0 : decode b_Mo_timesN 0 = .ok (.aload_n 0, 1) := by decide +kernel
theorem d_Mo_timesN_1 : decode b_Mo_timesN 1 = .ok (.aload_n 2, 1) := by decide +kernel
theorem d_Mo_timesN_2 : decode b_Mo_timesN 2 = .ok (.aload_n 3, 1) := by decide +kernel
theorem d_Mo_timesN_3 : decode b_Mo_timesN 3 = .ok (.invokevirtual 84, 3) := by decide +kernel
theorem d_Mo_timesN_6 : decode b_Mo_timesN 6 = .ok (.iconst 0, 1) := by decide +kernel
theorem d_Mo_timesN_7 : decode b_Mo_timesN 7 = .ok (.istore 4, 2) := by decide +kernel
theorem d_Mo_timesN_9 : decode b_Mo_timesN 9 = .ok (.iload 4, 2) := by decide +kernel
theorem d_Mo_timesN_11 : decode b_Mo_timesN 11 = .ok (.bipush 8, 2) := by decide +kernel
theorem d_Mo_timesN_13 : decode b_Mo_timesN 13 = .ok (.if_icmp .ge 17, 3) := by decide +kernel
theorem d_Mo_timesN_16 : decode b_Mo_timesN 16 = .ok (.aload_n 0, 1) := by decide +kernel
theorem d_Mo_timesN_17 : decode b_Mo_timesN 17 = .ok (.getfield 28, 3) := by decide +kernel
theorem d_Mo_timesN_20 : decode b_Mo_timesN 20 = .ok (.iload 4, 2) := by decide +kernel
theorem d_Mo_timesN_22 : decode b_Mo_timesN 22 = .ok (.iconst 0, 1) := by decide +kernel
theorem d_Mo_timesN_23 : decode b_Mo_timesN 23 = .ok (.iastore, 1) := by decide +kernel
theorem d_Mo_timesN_24 : decode b_Mo_timesN 24 = .ok (.iinc 4 1, 3) := by decide +kernel
theorem d_Mo_timesN_27 : decode b_Mo_timesN 27 = .ok (.goto (-18), 3) := by decide +kernel
theorem d_Mo_timesN_30 : decode b_Mo_timesN 30 = .ok (.sipush 511, 3) := by decide +kernel
theorem d_Mo_timesN_33 : decode b_Mo_timesN 33 = .ok (.istore 4, 2) := by decide +kernel
theorem d_Mo_timesN_35 : decode b_Mo_timesN 35 = .ok (.iload 4, 2) := by decide +kernel
theorem d_Mo_timesN_37 : decode b_Mo_timesN 37 = .ok (.ifCond .lt 98, 3) := by decide +kernel
theorem d_Mo_timesN_40 : decode b_Mo_timesN 40 = .ok (.aload_n 0, 1) := by decide +kernel
theorem d_Mo_timesN_41 : decode b_Mo_timesN 41 = .ok (.getfield 28, 3) := by decide +kernel
theorem d_Mo_timesN_44 : decode b_Mo_timesN 44 = .ok (.bipush 7, 2) := by decide +kernel
theorem d_Mo_timesN_46 : decode b_Mo_timesN 46 = .ok (.iaload, 1) := by decide +kernel
theorem d_Mo_timesN_47 : decode b_Mo_timesN 47 = .ok (.bipush 31, 2) := by decide +kernel
theorem d_Mo_timesN_49 : decode b_Mo_timesN 49 = .ok (.iushr, 1) := by decide +kernel
theorem d_Mo_timesN_50 : decode b_Mo_timesN 50 = .ok (.istore 5, 2) := by decide +kernel
theorem d_Mo_timesN_52 : decode b_Mo_timesN 52 = .ok (.aload_n 0, 1) := by decide +kernel
theorem d_Mo_timesN_53 : decode b_Mo_timesN 53 = .ok (.getfield 28, 3) := by decide +kernel
theorem d_Mo_timesN_56 : decode b_Mo_timesN 56 = .ok (.aload_n 0, 1) := by decide +kernel
theorem d_Mo_timesN_57 : decode b_Mo_timesN 57 = .ok (.getfield 28, 3) := by decide +kernel
theorem d_Mo_timesN_60 : decode b_Mo_timesN 60 = .ok (.aload_n 0, 1) := by decide +kernel
theorem d_Mo_timesN_61 : decode b_Mo_timesN 61 = .ok (.getfield 28, 3) := by decide +kernel
theorem d_Mo_timesN_64 : decode b_Mo_timesN 64 = .ok (.invokestatic 101, 3) := by decide +kernel
theorem d_Mo_timesN_67 : decode b_Mo_timesN 67 = .ok (.pop, 1) := by decide +kernel
theorem d_Mo_timesN_68 : decode b_Mo_timesN 68 = .ok (.aload_n 0, 1) := by decide +kernel
theorem d_Mo_timesN_69 : decode b_Mo_timesN 69 = .ok (.getfield 28, 3) := by decide +kernel
theorem d_Mo_timesN_72 : decode b_Mo_timesN 72 = .ok (.iconst 0, 1) := by decide +kernel
theorem d_Mo_timesN_73 : decode b_Mo_timesN 73 = .ok (.dup2, 1) := by decide +kernel
theorem d_Mo_timesN_74 : decode b_Mo_timesN 74 = .ok (.iaload, 1) := by decide +kernel
theorem d_Mo_timesN_75 : decode b_Mo_timesN 75 = .ok (.aload_n 0, 1) := by decide +kernel
theorem d_Mo_timesN_76 : decode b_Mo_timesN 76 = .ok (.getfield 37, 3) := by decide +kernel
theorem d_Mo_timesN_79 : decode b_Mo_timesN 79 = .ok (.iload 4, 2) := by decide +kernel
theorem d_Mo_timesN_81 : decode b_Mo_timesN 81 = .ok (.bipush 32, 2) := by decide +kernel
theorem d_Mo_timesN_83 : decode b_Mo_timesN 83 = .ok (.idiv, 1) := by decide +kernel
theorem d_Mo_timesN_84 : decode b_Mo_timesN 84 = .ok (.iaload, 1) := by decide +kernel
theorem d_Mo_timesN_85 : decode b_Mo_timesN 85 = .ok (.iload 4, 2) := by decide +kernel
theorem d_Mo_timesN_87 : decode b_Mo_timesN 87 = .ok (.bipush 32, 2) := by decide +kernel
theorem d_Mo_timesN_89 : decode b_Mo_timesN 89 = .ok (.irem, 1) := by decide +kernel
theorem d_Mo_timesN_90 : decode b_Mo_timesN 90 = .ok (.iushr, 1) := by decide +kernel
theorem d_Mo_timesN_91 : decode b_Mo_timesN 91 = .ok (.iconst 1, 1) := by decide +kernel
theorem d_Mo_timesN_92 : decode b_Mo_timesN 92 = .ok (.iand, 1) := by decide +kernel
theorem d_Mo_timesN_93 : decode b_Mo_timesN 93 = .ok (.ior, 1) := by decide +kernel
theorem d_Mo_timesN_94 : decode b_Mo_timesN 94 = .ok (.iastore, 1) := by decide +kernel
theorem d_Mo_timesN_95 : decode b_Mo_timesN 95 = .ok (.iload 5, 2) := by decide +kernel
theorem d_Mo_timesN_97 : decode b_Mo_timesN 97 = .ok (.iconst 1, 1) := by decide +kernel
theorem d_Mo_timesN_98 : decode b_Mo_timesN 98 = .ok (.if_icmp .eq 16, 3) := by decide +kernel
theorem d_Mo_timesN_101 : decode b_Mo_timesN 101 = .ok (.aload_n 0, 1) := by decide +kernel
theorem d_Mo_timesN_102 : decode b_Mo_timesN 102 = .ok (.getfield 28, 3) := by decide +kernel
theorem d_Mo_timesN_105 : decode b_Mo_timesN 105 = .ok (.getstatic 115, 3) := by decide +kernel
theorem d_Mo_timesN_108 : decode b_Mo_timesN 108 = .ok (.invokestatic 93, 3) := by decide +kernel
theorem d_Mo_timesN_111 : decode b_Mo_timesN 111 = .ok (.ifCond .lt 18, 3) := by decide +kernel
theorem d_Mo_timesN_114 : decode b_Mo_timesN 114 = .ok (.aload_n 0, 1) := by decide +kernel
theorem d_Mo_timesN_115 : decode b_Mo_timesN 115 = .ok (.getfield 28, 3) := by decide +kernel
theorem d_Mo_timesN_118 : decode b_Mo_timesN 118 = .ok (.aload_n 0, 1) := by decide +kernel
theorem d_Mo_timesN_119 : decode b_Mo_timesN 119 = .ok (.getfield 28, 3) := by decide +kernel
theorem d_Mo_timesN_122 : decode b_Mo_timesN 122 = .ok (.getstatic 115, 3) := by decide +kernel
theorem d_Mo_timesN_125 : decode b_Mo_timesN 125 = .ok (.invokestatic 97, 3) := by decide +kernel
theorem d_Mo_timesN_128 : decode b_Mo_timesN 128 = .ok (.pop, 1) := by decide +kernel
theorem d_Mo_timesN_129 : decode b_Mo_timesN 129 = .ok (.iinc 4 (-1), 3) := by decide +kernel
theorem d_Mo_timesN_132 : decode b_Mo_timesN 132 = .ok (.goto (-97), 3) := by decide +kernel
theorem d_Mo_timesN_135 : decode b_Mo_timesN 135 = .ok (.aload_n 1, 1) := by decide +kernel
theorem d_Mo_timesN_136 : decode b_Mo_timesN 136 = .ok (.aload_n 0, 1) := by decide +kernel
theorem d_Mo_timesN_137 : decode b_Mo_timesN 137 = .ok (.getfield 28, 3) := by decide +kernel
theorem d_Mo_timesN_140 : decode b_Mo_timesN 140 = .ok (.invokestatic 104, 3) := by decide +kernel
theorem d_Mo_timesN_143 : decode b_Mo_timesN 143 = .ok (.return_, 1) := by decide +kernel
section
variable {p : Program} {l : Launch} {e : Env} {R : Room} {s : State} {m : MethodId} {args : Array Value} {below : List Frame} {meth : Method} {c : Code} {cells slots : Nat} {Q : State → Prop}
set_option maxHeartbeats 4000000 in
set_option maxRecDepth 100000 in
theorem la_Mo_timesN (hx : p.tables.exec = Jvm.exec) (hb : c.code = b_Mo_timesN) (hts : ∀ w ∈ w_Mo_timesN, w.before args s = true) (hown : s.vm.findClass R_Mo = some m.cls) {E : ks_E} {mo : Nat} {far : Bool} (hE : ks_ok E) (hO : ks_O E mo far) (hB : ks_B E s) {r : Nat} {v : Nat → Nat}
    (kk : ∀ (w : Nat → Nat) (H : Heap) (ls : Array Slot) (locs : List Loc), ks_W E w H → w (mo + 18) = 0 → (∀ q, q ≠ mo + 18 → w q = v q) → (∀ q ∈ locs, q.base = r ∨ q.base = mo + 18 ∨ q.base = mo + 21) → lv_has ls 6 [(0, .ref mo), (1, .ref r)] → W p l e R s m args below meth c H locs 0 0 Q (F0 m 30 ls [])) :
    ∀ (n i : Nat) (w : Nat → Nat) (H : Heap) (ls : Array Slot) (locs : List Loc), i + n = 8 → ks_W E w H → w (mo + 18) % kw_M i = 0 → (∀ q, q ≠ mo + 18 → w q = v q) → (∀ q ∈ locs, q.base = r ∨ q.base = mo + 18 ∨ q.base = mo + 21) → lv_has ls 6 [(4, .int (nI i)), (0, .ref mo), (1, .ref r)] → W p l e R s m args below meth c H locs 0 0 Q (F0 m 9 ls []) := by
  intro n
  induction n with
  | zero =>
    intro i w H ls locs hn hW h1 ho hlc hl
    obtain rfl : i = 8 := by omega
    have hro := hO.2.2.1 18 (by decide) (by decide) (by decide)
    refine lv_iload hx hb d_Mo_timesN_9 (lv_at hl 0 rfl) ?_
    refine lv_bipush (v := nI 8) hx hb d_Mo_timesN_11 (by decide) ?_
    refine lv_icmp_ge hx hb d_Mo_timesN_13 rfl (fun hc => ?_) (fun hc => ?_)
    · rw [Nat.mod_eq_of_lt (ks_lt hE hW (Or.inl hro))] at h1
      exact kk w H ls locs hW h1 ho hlc (lv_sub hl [1, 2] rfl)
    · exact absurd (nI_le (Nat.le_refl 8) (by decide)) hc
  | succ n ih =>
    intro i w H ls locs hn hW h1 ho hlc hl
    have hi : i < 8 := by omega
    have hK := hB.1
    have hT := ks_T hE hB
    have hro := hO.2.2.1 18 (by decide) (by decide) (by decide)
    have hOo := ks_obj hW hO.1 hO.2.1
    have hrow := ks_row hW hro
    have hW1 := ks_put hE hW hro (kw_s_lt (ks_lt hE hW (Or.inl hro)) hi (show 0 < 4294967296 by decide))
    refine lv_iload hx hb d_Mo_timesN_9 (lv_at hl 0 rfl) ?_
    refine lv_bipush (v := nI 8) hx hb d_Mo_timesN_11 (by decide) ?_
    refine lv_icmp_ge hx hb d_Mo_timesN_13 rfl (fun hc => ?_) (fun hc => ?_)
    · exact absurd hc (nI_ge hi (by decide))
    · refine lv_aload_n hx hb d_Mo_timesN_16 rfl (lv_at hl 1 rfl) ?_
      refine kq_get hx hb hts kt_F_Mo hown hK hOo rfl 5 (by decide) kt_w381 rfl d_Mo_timesN_17 ?_
      refine lv_iload hx hb d_Mo_timesN_20 (lv_at hl 0 rfl) ?_
      refine lv_iconst (v := nI 0) hx hb d_Mo_timesN_22 (by decide) ?_
      refine kq_iast hx hb (hT) (hrow) (hi) (by decide) ((by decide)) d_Mo_timesN_23 ?_
      refine lv_iinc (k := 0) (v := nI (i + 1)) hx hb d_Mo_timesN_24 hl rfl (kq_inc i) (by decide) rfl (fun ls hl => ?_)
      have hl : lv_has ls 6 [(4, .int (nI (i + 1))), (0, .ref mo), (1, .ref r)] := hl
      refine lv_goto hx hb d_Mo_timesN_27 rfl ?_
      refine ih (i + 1) _ _ ls _ (by omega) hW1 ?_ (fun q hq => by rw [kq_up_ne hq]; exact ho q hq) (t_lc (free := (fun q => q = r ∨ q = mo + 18 ∨ q = mo + 21)) hlc (Or.inr (Or.inl rfl))) (lv_sub hl [0, 1, 2] rfl)
      rw [kq_up_at, kw_s_lo _ _ _ (by decide), h1]
      rfl
set_option maxHeartbeats 4000000 in
set_option maxRecDepth 100000 in
theorem lb_Mo_timesN (hx : p.tables.exec = Jvm.exec) (hb : c.code = b_Mo_timesN) (hts : ∀ w ∈ w_Mo_timesN, w.before args s = true) (hown : s.vm.findClass R_Mo = some m.cls) (hml : c.maxLocals = 6) (hRf : 3 ≤ R.frames) (hRl : 67 ≤ R.locals) {E : ks_E} {mo : Nat} {far : Bool} (hE : ks_ok E) (hO : ks_O E mo far) (hB : ks_B E s) {A : Nat → Nat} (hA : ks_A E A) (hC : ks_C E A s) {r : Nat} {v : Nat → Nat}
    (kk : ∀ (w : Nat → Nat) (H : Heap) (ls : Array Slot) (locs : List Loc), ks_W E w H → w (mo + 18) = v (mo + 21) % kN → (∀ q, q ≠ mo + 18 → w q = v q) → (∀ q ∈ locs, q.base = r ∨ q.base = mo + 18 ∨ q.base = mo + 21) → lv_has ls 6 [(0, .ref mo), (1, .ref r)] → W p l e R s m args below meth c H locs 0 0 Q (F0 m 135 ls [])) :
    ∀ (n : Nat) (w : Nat → Nat) (H : Heap) (ls : Array Slot) (locs : List Loc), n ≤ 512 → ks_W E w H → w (mo + 18) = v (mo + 21) / 2 ^ n % kN → (∀ q, q ≠ mo + 18 → w q = v q) → (∀ q ∈ locs, q.base = r ∨ q.base = mo + 18 ∨ q.base = mo + 21) → lv_has ls 6 [(4, .int (kq_dn n)), (0, .ref mo), (1, .ref r)] → W p l e R s m args below meth c H locs 0 0 Q (F0 m 35 ls []) := by
  intro n
  induction n with
  | zero =>
    intro w H ls locs hn hW h1 ho hlc hl
    refine lv_iload hx hb d_Mo_timesN_35 (lv_at hl 0 rfl) ?_
    refine lv_if_lt hx hb d_Mo_timesN_37 rfl (fun hc => ?_) (fun hc => ?_)
    · rw [Nat.pow_zero, Nat.div_one] at h1
      exact kk w H ls locs hW h1 ho hlc (lv_sub hl [1, 2] rfl)
    · exact absurd (by decide) hc
  | succ n ih =>
    intro w H ls locs hn hW h1 ho hlc hl
    have hl : lv_has ls 6 [(4, .int (nI n)), (0, .ref mo), (1, .ref r)] := hl
    have hK := hB.1
    have hT := ks_T hE hB
    have hro := hO.2.2.1 18 (by decide) (by decide) (by decide)
    have hOo := ks_obj hW hO.1 hO.2.1
    have hrow := ks_row hW hro
    have hsr := ks_src hE hW hB (Or.inl hro)
    have hlr := ks_lt hE hW (Or.inl hro)
    have hlN : w (mo + 18) < kN := by rw [h1]; exact Nat.mod_lt _ (by decide)
    obtain ⟨V, hV⟩ : ∃ V, V = v (mo + 21) := ⟨_, rfl⟩
    obtain ⟨t, ht⟩ : ∃ t, t = w (mo + 18) := ⟨_, rfl⟩
    rw [← ht] at hrow hsr hlr hlN h1
    have l7 := kw_d_lt t 7
    have hbit : V / 2 ^ n % 2 < 2 := Nat.mod_lt _ (by decide)
    obtain ⟨hY, key⟩ := kx_nstep hlN hbit
    obtain ⟨X, hX⟩ : ∃ X, X = (t + t) % kw_M 8 := ⟨_, rfl⟩
    have hX8 : X < kw_M 8 := by rw [hX]; exact Nat.mod_lt _ (kw_M_pos 8)
    have heven : kw_d X 0 % 2 = 0 := by rw [hX]; exact kx_even t
    have lX0 := kw_d_lt X 0
    have hW1 := ks_put hE hW hro hX8
    have hOo1 := ks_obj hW1 hO.1 hO.2.1
    have hrow1 := ks_row hW1 hro
    have hsr1 := ks_src hE hW1 hB (Or.inl hro)
    obtain ⟨hw1, hw2⟩ := ks_wide hO hW1
    rw [kq_up_ne (by omega), ho (mo + 21) (by omega), ← hV] at hw1 hw2
    have hsw : kq_r s .int (kq_set H (mo + 18) (kq_I (ks_c E) 8 X)) (mo + 21) 16 (fun j => .int (nI (kw_d V j))) := kq_r.ofV hT hw1
    rw [kq_up_at] at hrow1 hsr1
    have lV := kw_d_lt V (n / 32)
    have hY2 : kw_s X 0 (kw_d X 0 + V / 2 ^ n % 2) = X + V / 2 ^ n % 2 := by
      have q := kw_s_eq X 0 (kw_d X 0 + V / 2 ^ n % 2)
      rw [kw_M_0] at q
      omega
    have hstep : (2 * t + V / 2 ^ n % 2) % kN = V / 2 ^ n % kN := by
      rw [h1, ← hV]
      exact kx_nbit V n kN
    rw [hstep, ← hX] at key
    rw [← hX] at hY
    have hW2 := ks_put hE hW hro hY
    have hOo2 := ks_obj hW2 hO.1 hO.2.1
    have hrow2 := ks_row hW2 hro
    have hsr2 := ks_src hE hW2 hB (Or.inl hro)
    have hsN := ks_src hE hW2 hB (Or.inr hA.2.1.1)
    have hlNN := ks_lt hE hW2 (Or.inr hA.2.1.1)
    rw [ks_cst hW2 hA.2.1] at hsN hlNN
    rw [kq_up_at] at hrow2 hsr2
    refine lv_iload hx hb d_Mo_timesN_35 (lv_at hl 0 rfl) ?_
    refine lv_if_lt hx hb d_Mo_timesN_37 rfl (fun hc => ?_) (fun hc => ?_)
    · exact absurd hc (nI_pos (by omega))
    · refine lv_aload_n hx hb d_Mo_timesN_40 rfl (lv_at hl 1 rfl) ?_
      refine kq_get hx hb hts kt_F_Mo hown hK hOo rfl 5 (by decide) kt_w381 rfl d_Mo_timesN_41 ?_
      refine lv_bipush (v := nI 7) hx hb d_Mo_timesN_44 (by decide) ?_
      refine kq_iald hx hb (hsr) ((by decide)) (by decide) (rfl) d_Mo_timesN_46 ?_
      refine lv_bipush (v := nI 31) hx hb d_Mo_timesN_47 (by decide) ?_
      refine lv_iushr (v := nI (kw_d t 7 / 2 ^ 31)) hx hb d_Mo_timesN_49 (pk_ushrN (by omega) _ 31 (by decide +kernel)) ?_
      refine lv_istore hx hb d_Mo_timesN_50 hl (by decide) rfl (fun ls hl => ?_)
      have hl : lv_has ls 6 [(5, .int (nI (kw_d t 7 / 2 ^ 31))), (4, .int (nI n)), (0, .ref mo), (1, .ref r)] := hl
      refine lv_aload_n hx hb d_Mo_timesN_52 rfl (lv_at hl 2 rfl) ?_
      refine kq_get hx hb hts kt_F_Mo hown hK hOo rfl 5 (by decide) kt_w381 rfl d_Mo_timesN_53 ?_
      refine lv_aload_n hx hb d_Mo_timesN_56 rfl (lv_at hl 2 rfl) ?_
      refine kq_get hx hb hts kt_F_Mo hown hK hOo rfl 5 (by decide) kt_w381 rfl d_Mo_timesN_57 ?_
      refine lv_aload_n hx hb d_Mo_timesN_60 rfl (lv_at hl 2 rfl) ?_
      refine kq_get hx hb hts kt_F_Mo hown hK hOo rfl 5 (by decide) kt_w381 rfl d_Mo_timesN_61 ?_
      refine kq_call (va_runS (As := [.ref (mo + 18), .ref (mo + 18), .ref (mo + 18)]) (rest := []) ⟨hx, hb, hml, hown, hts⟩ (c_Mo_add_1 l H (ks_c E) (mo + 18) (mo + 18) (mo + 18) t t t hlr hlr hlr hrow) (va_cwS 3 hts (kt_inS kt_w479 kt_w477 kt_w478 kt_w5) rfl rfl rfl (by decide +kernel) ⟨Nat.le_trans (Nat.le_of_ble_eq_true rfl) hRf, Nat.le_trans (Nat.le_of_ble_eq_true rfl) hRl⟩) (kq_preS (kq_st_A.both (kq_st_r.both kq_st_r)) (⟨hT, hsr, hsr⟩)) rfl rfl hl.1 rfl (lv_room (Nat.le_of_ble_eq_true rfl)) d_Mo_timesN_64 ⟨Nat.zero_le _, Nat.zero_le _⟩) (fun v9 H9 L1 hq9 hL1 => ?_)
      obtain ⟨rfl, rfl⟩ := hq9
      refine W.eq (g2 := F0 m 67 ls [.int (nI ((t + t) / kw_M 8))]) rfl ?_
      rw [← hX]
      refine lv_pop hx hb d_Mo_timesN_67 rfl ?_
      refine lv_aload_n hx hb d_Mo_timesN_68 rfl (lv_at hl 2 rfl) ?_
      refine kq_get hx hb hts kt_F_Mo hown hK hOo1 rfl 5 (by decide) kt_w381 rfl d_Mo_timesN_69 ?_
      refine lv_iconst (v := nI 0) hx hb d_Mo_timesN_72 (by decide) ?_
      refine lv_dup2_11 hx hb d_Mo_timesN_73 rfl rfl ?_
      refine kq_iald hx hb (hsr1) ((by decide)) (by decide) (rfl) d_Mo_timesN_74 ?_
      refine lv_aload_n hx hb d_Mo_timesN_75 rfl (lv_at hl 2 rfl) ?_
      refine kq_get hx hb hts kt_F_Mo hown hK hOo1 rfl 8 (by decide) kt_w384 rfl d_Mo_timesN_76 ?_
      refine lv_iload hx hb d_Mo_timesN_79 (lv_at hl 1 rfl) ?_
      refine lv_bipush (v := nI 32) hx hb d_Mo_timesN_81 (by decide) ?_
      refine lv_idiv hx hb d_Mo_timesN_83 (by decide) ?_
      refine kq_ri (show nI n / nI 32 = nI (n / 32) from pk_div (a := n) (d := 32) (by omega) (by decide) (by decide)) ?_
      refine kq_iald hx hb (hsw) ((by omega)) (by decide) (rfl) d_Mo_timesN_84 ?_
      refine lv_iload hx hb d_Mo_timesN_85 (lv_at hl 1 rfl) ?_
      refine lv_bipush (v := nI 32) hx hb d_Mo_timesN_87 (by decide) ?_
      refine lv_irem hx hb d_Mo_timesN_89 (by decide) ?_
      refine kq_ri (show nI n - nI n / nI 32 * nI 32 = nI (n % 32) from pk_rem (a := n) (d := 32) (by omega) (by decide) (by decide)) ?_
      refine lv_iushr (v := nI (kw_d V (n / 32) / 2 ^ (n % 32))) hx hb d_Mo_timesN_90 (pk_ushrN (by omega) _ _ (kx_su (n % 32) (Nat.mod_lt _ (by decide)))) ?_
      refine lv_iconst (v := nI 1) hx hb d_Mo_timesN_91 (by decide) ?_
      refine lv_iand hx hb d_Mo_timesN_92 ?_
      refine kq_ri (show (nI (kw_d V (n / 32) / 2 ^ (n % 32))) &&& (nI 1) = nI (V / 2 ^ n % 2) from (by rw [pk_andN (n := kw_d V (n / 32) / 2 ^ (n % 32)) (m := nI 1) (Nat.lt_of_le_of_lt (Nat.div_le_self _ _) (by omega)) 1 rfl]; exact congrArg nI (kw_bit V n))) ?_
      refine lv_ior hx hb d_Mo_timesN_93 ?_
      refine kq_ri (show (nI (kw_d X 0)) ||| (nI (V / 2 ^ n % 2)) = nI (kw_d X 0 + V / 2 ^ n % 2) from kx_or1 lX0 heven hbit) ?_
      refine kq_iast hx hb (hT) (hrow1) ((by decide)) (by decide) ((by omega)) d_Mo_timesN_94 ?_
      rw [hY2]
      refine kq_rH (kq_set_set _ _ _ _) ?_
      have hlcA := t_lL (free := (fun q => q = r ∨ q = mo + 18 ∨ q = mo + 21)) hlc (fun q z => Or.inr (Or.inl (hL1 q z)))
      refine lv_iload hx hb d_Mo_timesN_95 (lv_at hl 0 rfl) ?_
      refine lv_iconst (v := nI 1) hx hb d_Mo_timesN_97 (by decide) ?_
      refine lv_icmp_eq hx hb d_Mo_timesN_98 rfl (fun hct => ?_) (fun hct => ?_)
      · have htop : (t + t) / kw_M 8 = 1 := by
          rw [← kx_top7 hlr]
          exact (kx_n1 (by omega)).mp hct
        rw [if_pos (Or.inl htop)] at key
        refine lv_aload_n hx hb d_Mo_timesN_114 rfl (lv_at hl 2 rfl) ?_
        refine kq_get hx hb hts kt_F_Mo hown hK hOo2 rfl 5 (by decide) kt_w381 rfl d_Mo_timesN_115 ?_
        refine lv_aload_n hx hb d_Mo_timesN_118 rfl (lv_at hl 2 rfl) ?_
        refine kq_get hx hb hts kt_F_Mo hown hK hOo2 rfl 5 (by decide) kt_w381 rfl d_Mo_timesN_119 ?_
        refine kq_gets hx hb hts (ks_zat hW2 hC.2.2.1) hown kt_w451 d_Mo_timesN_122 ?_
        refine kq_call (va_runS (As := [.ref (mo + 18), .ref (mo + 18), .ref (A 1)]) (rest := []) ⟨hx, hb, hml, hown, hts⟩ (c_Mo_sub l _ (ks_c E) (mo + 18) (mo + 18) (A 1) (X + V / 2 ^ n % 2) (X + V / 2 ^ n % 2) kN hY hY hlNN hrow2) (va_cwS 3 hts (kt_inS kt_w475 kt_w473 kt_w474 kt_w5) rfl rfl rfl (by decide +kernel) ⟨Nat.le_trans (Nat.le_of_ble_eq_true rfl) hRf, Nat.le_trans (Nat.le_of_ble_eq_true rfl) hRl⟩) (kq_preS (kq_st_A.both (kq_st_r.both kq_st_r)) (⟨hT, hsr2, hsN⟩)) rfl rfl hl.1 rfl (lv_room (Nat.le_of_ble_eq_true rfl)) d_Mo_timesN_125 ⟨Nat.zero_le _, Nat.zero_le _⟩) (fun v9 H9 L3 hq9 hL3 => ?_)
        obtain ⟨rfl, rfl⟩ := hq9
        refine W.eq (g2 := F0 m 128 ls [.int (nI (18446744073709551616 - (if X + V / 2 ^ n % 2 < kN then 1 else 0)))]) rfl ?_
        refine kq_rH (kq_set_set _ _ _ _) ?_
        refine lv_pop hx hb d_Mo_timesN_128 rfl ?_
        refine lv_iinc (k := 1) (v := kq_dn n) hx hb d_Mo_timesN_129 hl rfl (kq_dn_dec n) (by decide) rfl (fun ls hl => ?_)
        have hl : lv_has ls 6 [(4, .int (kq_dn n)), (5, .int (nI (kw_d t 7 / 2 ^ 31))), (0, .ref mo), (1, .ref r)] := hl
        refine lv_goto hx hb d_Mo_timesN_132 rfl ?_
        exact ih _ _ ls _ (by omega) (ks_put hE hW hro (kw_sub_lt (X + V / 2 ^ n % 2) kN)) (by rw [kq_up_at, key, hV]) (fun q hq => by rw [kq_up_ne hq]; exact ho q hq) (t_lL (free := (fun q => q = r ∨ q = mo + 18 ∨ q = mo + 21)) (t_lc (free := (fun q => q = r ∨ q = mo + 18 ∨ q = mo + 21)) hlcA (Or.inr (Or.inl rfl))) (fun q z => Or.inr (Or.inl (hL3 q z)))) (lv_sub hl [0, 2, 3] rfl)
      · have htop : ¬ (t + t) / kw_M 8 = 1 := fun q => hct (by rw [kx_top7 hlr, q])
        refine lv_aload_n hx hb d_Mo_timesN_101 rfl (lv_at hl 2 rfl) ?_
        refine kq_get hx hb hts kt_F_Mo hown hK hOo2 rfl 5 (by decide) kt_w381 rfl d_Mo_timesN_102 ?_
        refine kq_gets hx hb hts (ks_zat hW2 hC.2.2.1) hown kt_w451 d_Mo_timesN_105 ?_
        refine kq_call (va_runS (As := [.ref (mo + 18), .ref (A 1)]) (rest := []) ⟨hx, hb, hml, hown, hts⟩ (c_Mo_compare l _ (mo + 18) (A 1) (X + V / 2 ^ n % 2) kN hY hlNN) (va_cwS 2 hts (kt_inS kt_w465 kt_w463 kt_w464 kt_w5) rfl rfl rfl (by decide +kernel) ⟨Nat.le_trans (Nat.le_of_ble_eq_true rfl) hRf, Nat.le_trans (Nat.le_of_ble_eq_true rfl) hRl⟩) (kq_preS (kq_st_r.both kq_st_r) (⟨hsr2, hsN⟩)) rfl rfl hl.1 rfl (lv_room (Nat.le_of_ble_eq_true rfl)) d_Mo_timesN_108 ⟨Nat.zero_le _, Nat.zero_le _⟩) (fun v9 H9 L2 hq9 hL2 => ?_)
        obtain ⟨rfl, e9⟩ := hq9
        rw [e9]
        clear e9
        refine W.eq (g2 := F0 m 111 ls [.int (kx_cmp (X + V / 2 ^ n % 2) kN)]) rfl ?_
        refine lv_if_lt hx hb d_Mo_timesN_111 rfl (fun hc3 => ?_) (fun hc3 => ?_)
        · have h2 := kx_cmp_lt.mp hc3
          rw [if_neg (fun q => q.elim htop (fun z => by omega))] at key
          refine lv_iinc (k := 1) (v := kq_dn n) hx hb d_Mo_timesN_129 hl rfl (kq_dn_dec n) (by decide) rfl (fun ls hl => ?_)
          have hl : lv_has ls 6 [(4, .int (kq_dn n)), (5, .int (nI (kw_d t 7 / 2 ^ 31))), (0, .ref mo), (1, .ref r)] := hl
          refine lv_goto hx hb d_Mo_timesN_132 rfl ?_
          exact ih _ _ ls _ (by omega) hW2 (by rw [kq_up_at, key, hV]) (fun q hq => by rw [kq_up_ne hq]; exact ho q hq) (t_lL (free := (fun q => q = r ∨ q = mo + 18 ∨ q = mo + 21)) (t_lc (free := (fun q => q = r ∨ q = mo + 18 ∨ q = mo + 21)) hlcA (Or.inr (Or.inl rfl))) (fun q z => (hL2 q z).elim)) (lv_sub hl [0, 2, 3] rfl)
        · have h2 : kN ≤ X + V / 2 ^ n % 2 := Nat.not_lt.mp (fun q => hc3 (kx_cmp_lt.mpr q))
          rw [if_pos (Or.inr h2)] at key
          refine lv_aload_n hx hb d_Mo_timesN_114 rfl (lv_at hl 2 rfl) ?_
          refine kq_get hx hb hts kt_F_Mo hown hK hOo2 rfl 5 (by decide) kt_w381 rfl d_Mo_timesN_115 ?_
          refine lv_aload_n hx hb d_Mo_timesN_118 rfl (lv_at hl 2 rfl) ?_
          refine kq_get hx hb hts kt_F_Mo hown hK hOo2 rfl 5 (by decide) kt_w381 rfl d_Mo_timesN_119 ?_
          refine kq_gets hx hb hts (ks_zat hW2 hC.2.2.1) hown kt_w451 d_Mo_timesN_122 ?_
          refine kq_call (va_runS (As := [.ref (mo + 18), .ref (mo + 18), .ref (A 1)]) (rest := []) ⟨hx, hb, hml, hown, hts⟩ (c_Mo_sub l _ (ks_c E) (mo + 18) (mo + 18) (A 1) (X + V / 2 ^ n % 2) (X + V / 2 ^ n % 2) kN hY hY hlNN hrow2) (va_cwS 3 hts (kt_inS kt_w475 kt_w473 kt_w474 kt_w5) rfl rfl rfl (by decide +kernel) ⟨Nat.le_trans (Nat.le_of_ble_eq_true rfl) hRf, Nat.le_trans (Nat.le_of_ble_eq_true rfl) hRl⟩) (kq_preS (kq_st_A.both (kq_st_r.both kq_st_r)) (⟨hT, hsr2, hsN⟩)) rfl rfl hl.1 rfl (lv_room (Nat.le_of_ble_eq_true rfl)) d_Mo_timesN_125 ⟨Nat.zero_le _, Nat.zero_le _⟩) (fun v9 H9 L3 hq9 hL3 => ?_)
          obtain ⟨rfl, rfl⟩ := hq9
          refine W.eq (g2 := F0 m 128 ls [.int (nI (18446744073709551616 - (if X + V / 2 ^ n % 2 < kN then 1 else 0)))]) rfl ?_
          refine kq_rH (kq_set_set _ _ _ _) ?_
          refine lv_pop hx hb d_Mo_timesN_128 rfl ?_
          refine lv_iinc (k := 1) (v := kq_dn n) hx hb d_Mo_timesN_129 hl rfl (kq_dn_dec n) (by decide) rfl (fun ls hl => ?_)
          have hl : lv_has ls 6 [(4, .int (kq_dn n)), (5, .int (nI (kw_d t 7 / 2 ^ 31))), (0, .ref mo), (1, .ref r)] := hl
          refine lv_goto hx hb d_Mo_timesN_132 rfl ?_
          exact ih _ _ ls _ (by omega) (ks_put hE hW hro (kw_sub_lt (X + V / 2 ^ n % 2) kN)) (by rw [kq_up_at, key, hV]) (fun q hq => by rw [kq_up_ne hq]; exact ho q hq) (t_lL (free := (fun q => q = r ∨ q = mo + 18 ∨ q = mo + 21)) (t_lL (free := (fun q => q = r ∨ q = mo + 18 ∨ q = mo + 21)) (t_lc (free := (fun q => q = r ∨ q = mo + 18 ∨ q = mo + 21)) hlcA (Or.inr (Or.inl rfl))) (fun q z => (hL2 q z).elim)) (fun q z => Or.inr (Or.inl (hL3 q z)))) (lv_sub hl [0, 2, 3] rfl)
end
set_option maxHeartbeats 4000000 in
set_option maxRecDepth 100000 in
theorem c_Mo_timesN (l : Launch) (E : ks_E) (A : Nat → Nat) (mo : Nat) (far : Bool) (v : Nat → Nat) (H : Heap) (hE : ks_ok E) (hA : ks_A E A) (hO : ks_O E mo far) (hW : ks_W E v H) (r a b : Nat) (hr : ks_out E r) (ha : ks_in E a) (hb0 : ks_in E b) : Met l y_Mo_timesN w_Mo_timesN ({ frames := 3, cells := 0, slots := 0, locals := 67 }) (kq_P [.ref mo, .ref r, .ref a, .ref b] H (ks_C E A)) (kq_Q (fun o H1 => o = none ∧ ∃ w : Nat → Nat, ks_W E w H1 ∧ w r = v a * v b % kN ∧ ∀ q, q ≠ r → q ≠ mo + 18 → q ≠ mo + 21 → w q = v q)) 0 0 (fun q => q = r ∨ q = mo + 18 ∨ q = mo + 21) := by
  refine Met.ofW (cc := b_Mo_timesN) (maxL := 6) (ret := none) (by decide) rfl ?_
  intro p e s m args below meth c s₁ B0 hml hv
  obtain ⟨rfl, hH, hC⟩ := hv
  have hx := B0.exec
  have hb := B0.bytes
  have hret := B0.returns
  have hts := atoms_spec (ws := w_Mo_timesN) B0.pre
  have hown : s.vm.findClass R_Mo = some m.cls := findClass_of_methodNamed B0.named
  have hlocks := B0.notSynchronized
  rw [hH]
  have hl := lv_entry ([.ref mo, .ref r, .ref a, .ref b]) (n := 6) (Nat.le_of_ble_eq_true rfl)
  rw [lg_entry_eq]
  generalize (lg_sl ([.ref mo, .ref r, .ref a, .ref b]) ++ List.replicate (6 - (lg_sl ([.ref mo, .ref r, .ref a, .ref b])).length) Slot.unset).toArray = ls at hl ⊢
  have hl : lv_has ls 6 [(0, .ref mo), (1, .ref r), (2, .ref a), (3, .ref b)] := hl
  have hB := hC.1
  have hK := hB.1
  have hT := ks_T hE hB
  have hOo := ks_obj hW hO.1 hO.2.1
  have hro := hO.2.2.1 18 (by decide) (by decide) (by decide)
  refine lv_aload_n hx hb d_Mo_timesN_0 rfl (lv_at hl 0 rfl) ?_
  refine lv_aload_n hx hb d_Mo_timesN_1 rfl (lv_at hl 2 rfl) ?_
  refine lv_aload_n hx hb d_Mo_timesN_2 rfl (lv_at hl 3 rfl) ?_
  refine kq_call (va_runV (As := [.ref a, .ref b]) (rest := []) ⟨hx, hb, hml, hown, hts⟩ (c_Mo_multiply_1 l E A mo far v H hE hA hO hW a b ha hb0) (cwV 2 hts (kt_inV kt_w495 kt_w492 kt_w494 kt_s12 kt_w5) rfl rfl rfl (by decide +kernel) ⟨Nat.le_of_ble_eq_true rfl, Nat.le_of_ble_eq_true rfl⟩) (kq_preV (ks_st E) (hB) (kq_recv hK hOo rfl)) rfl rfl hl.1 rfl (lv_room (Nat.le_of_ble_eq_true rfl)) d_Mo_timesN_3 ⟨Nat.zero_le _, Nat.zero_le _⟩) (fun v9 H9 L1 hq9 hL1 => ?_)
  obtain ⟨rfl, hW1⟩ := hq9
  refine W.eq (g2 := F0 m 6 ls []) rfl ?_
  have hlc1 : ∀ q ∈ ([] : List Loc) ++ L1, q.base = r ∨ q.base = mo + 18 ∨ q.base = mo + 21 := t_lL (free := (fun q => q = r ∨ q = mo + 18 ∨ q = mo + 21)) (fun q h => by cases h) (fun q z => Or.inr (Or.inr (hL1 q z)))
  have hV16 := (ks_wide hO hW1).2
  have hVe : va_up v (mo + 21) (v a * v b) (mo + 21) = v a * v b := kq_up_at
  rw [hVe] at hV16
  refine lv_iconst (v := nI 0) hx hb d_Mo_timesN_6 (by decide) ?_
  refine lv_istore hx hb d_Mo_timesN_7 hl (by decide) rfl (fun ls hl => ?_)
  have hl : lv_has ls 6 [(4, .int (nI 0)), (0, .ref mo), (1, .ref r), (2, .ref a), (3, .ref b)] := hl
  refine la_Mo_timesN hx hb hts hown hE hO hB (v := va_up v (mo + 21) (v a * v b)) (r := r) (fun w2 H2 ls L2 hW2 h2 ho2 hL2 hl => ?_) 8 0 _ _ ls _ rfl hW1 (by rw [kw_M_0, Nat.mod_one]) (fun _ _ => rfl) hlc1 (lv_sub hl [0, 1, 2] rfl)
  refine lv_sipush (v := nI 511) hx hb d_Mo_timesN_30 (by decide) ?_
  refine lv_istore hx hb d_Mo_timesN_33 hl (by decide) rfl (fun ls hl => ?_)
  have hl : lv_has ls 6 [(4, .int (nI 511)), (0, .ref mo), (1, .ref r)] := hl
  refine lb_Mo_timesN hx hb hts hown hml (Nat.le_of_ble_eq_true rfl) (Nat.le_of_ble_eq_true rfl) hE hO hB hA hC (v := va_up v (mo + 21) (v a * v b)) (r := r) (fun w3 H3 ls L3 hW3 h3 ho3 hL3 hl => ?_) 512 w2 H2 ls L2 (Nat.le_refl 512) hW2 (by rw [h2, hVe, Nat.div_eq_of_lt (show v a * v b < 2 ^ 512 from hV16), Nat.zero_mod]) ho2 hL2 (lv_sub hl [0, 1, 2] rfl)
  have hs3 := ks_src hE hW3 hB (Or.inl hro)
  have hl3 := ks_lt hE hW3 (Or.inl hro)
  have hOo3 := ks_obj hW3 hO.1 hO.2.1
  rw [hVe] at h3
  refine lv_aload_n hx hb d_Mo_timesN_135 rfl (lv_at hl 1 rfl) ?_
  refine lv_aload_n hx hb d_Mo_timesN_136 rfl (lv_at hl 0 rfl) ?_
  refine kq_get hx hb hts kt_F_Mo hown hK hOo3 rfl 5 (by decide) kt_w381 rfl d_Mo_timesN_137 ?_
  refine kq_call (va_runS (As := [.ref r, .ref (mo + 18)]) (rest := []) ⟨hx, hb, hml, hown, hts⟩ (c_Mo_copy l H3 (ks_c E) r (mo + 18) (w3 r) (w3 (mo + 18)) (ks_row hW3 hr)) (va_cwS 2 hts (kt_inS kt_w461 kt_w459 kt_w460 kt_w5) rfl rfl rfl (by decide +kernel) ⟨Nat.le_of_ble_eq_true rfl, Nat.le_of_ble_eq_true rfl⟩) (kq_preS (kq_st_A.both kq_st_r) (⟨hT, hs3⟩)) rfl rfl hl.1 rfl (lv_room (Nat.le_of_ble_eq_true rfl)) d_Mo_timesN_140 ⟨Nat.zero_le _, Nat.zero_le _⟩) (fun v9 H9 L4 hq9 hL4 => ?_)
  obtain ⟨rfl, rfl⟩ := hq9
  refine W.eq (g2 := F0 m 143 ls []) rfl ?_
  refine W.vret hx hb hret (fun t ht _ => ⟨_, rfl, rfl, ?_⟩) (t_lL (free := (fun q => q = r ∨ q = mo + 18 ∨ q = mo + 21)) hL3 (fun q z => Or.inl (hL4 q z))) d_Mo_timesN_143
  rw [ht]
  exact ⟨_, ks_put hE hW3 hr hl3, by rw [kq_up_at]; exact h3, fun q h1 h2 h4 => by rw [kq_up_ne h1, ho3 q h2, kq_up_ne h4]⟩
