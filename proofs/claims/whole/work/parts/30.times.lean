/-! KeyCurveModel: times of rows (own rows). -/
def kx_T (V k : Nat) : Nat := V % kw_M k + V / kw_M 8 % kw_M k * 977 + (if k = 0 then 0 else V / kw_M 8 % kw_M (k - 1) * 4294967296)
theorem kx_T_s (V k : Nat) : kx_T V (k + 1) = kx_T V k + kw_M k * (kw_d V k + kw_d V (8 + k) * 977 + (if k = 0 then 0 else kw_d V (7 + k))) := by
  unfold kx_T
  rw [if_neg (Nat.succ_ne_zero k), Nat.add_sub_cancel, kw_d_lo V k, kw_d_lo (V / kw_M 8) k, kw_d_shift]
  cases k with
  | zero =>
    rw [if_pos rfl, if_pos rfl, kw_M_0, Nat.mod_one]
    omega
  | succ j =>
    rw [if_neg (Nat.succ_ne_zero j), if_neg (Nat.succ_ne_zero j), Nat.add_sub_cancel, kw_d_lo (V / kw_M 8) j, kw_d_shift, show 7 + (j + 1) = 8 + j by omega]
    have e : kw_M (j + 1) = kw_M j * 4294967296 := kw_M_s j
    generalize kw_d V (8 + j) = x
    generalize kw_d V (8 + (j + 1)) = y
    generalize kw_d V (j + 1) = z
    generalize kw_M (j + 1) = M1 at *
    generalize kw_M j = M0 at *
    subst e
    grind
theorem kx_T_end {V : Nat} (hV : V < kw_M 16) : kx_T V 8 + kw_d V 15 * kw_M 8 = kp_fold kG_P V := by
  have hh := kw_div_lt hV
  have e7 := kw_d_lo (V / kw_M 8) 7
  rw [Nat.mod_eq_of_lt hh, kw_d_shift] at e7
  have e8 : kw_M 8 = kw_M 7 * 4294967296 := kw_M_s 7
  unfold kx_T kp_fold kG_P
  rw [Nat.mod_eq_of_lt hh, if_neg (by decide), show 8 - 1 = 7 by decide]
  have e9 : kw_d V 15 * kw_M 8 = kw_M 7 * kw_d V (8 + 7) * 4294967296 := by
    rw [e8, Nat.mul_comm, Nat.mul_assoc, Nat.mul_comm 4294967296, ← Nat.mul_assoc]
  rw [e9]
  generalize V / kw_M 8 = Hh at *
  generalize Hh % kw_M 7 = lo at *
  generalize kw_M 7 * kw_d V (8 + 7) = hi at *
  omega
def kx_U (R ov k : Nat) : Nat := R % kw_M k + (if k = 0 then 0 else ov * 977) + (if k ≤ 1 then 0 else ov * 4294967296)
theorem kx_U_s (R ov k : Nat) : kx_U R ov (k + 1) = kx_U R ov k + kw_M k * (kw_d R k + (if k = 0 then ov * 977 else if k = 1 then ov else 0)) := by
  unfold kx_U
  rw [kw_d_lo R k]
  rcases (show k = 0 ∨ k = 1 ∨ 2 ≤ k by omega) with e | e | e
  · subst e
    rw [kw_M_0]
    rw [if_pos (show 0 + 1 ≤ 1 by decide), if_pos (show 0 ≤ 1 by decide), if_pos rfl, if_pos rfl, if_neg (show ¬ 0 + 1 = 0 by decide)]
    omega
  · subst e
    have e1 : kw_M 1 = 4294967296 := by decide
    rw [e1]
    simp
    omega
  · rw [if_neg (by omega), if_neg (by omega), if_neg (by omega), if_neg (by omega), if_neg (by omega), if_neg (by omega), Nat.add_zero]
    omega
theorem kx_step {lo lo' cy c' x s M T add : Nat} (h1 : lo' = lo + M * x) (h2 : s = cy + add) (h3 : s = 4294967296 * c' + x) (hI : lo + cy * M = T) : lo' + c' * (M * 4294967296) = T + M * add := by
  have a1 : M * s = cy * M + M * add := by rw [h2]; grind
  have a2 : M * s = c' * (M * 4294967296) + M * x := by rw [h3]; grind
  omega
theorem kq_cmp_le {a b : Nat} (ha : a < 9223372036854775808) (hb : b < 9223372036854775808) : lg_cmp (lN a) (lN b) ≤ 0 ↔ a ≤ b := by
  unfold lg_cmp
  have h1 := pk_lLT (a := b) (b := a) (by omega) (by omega)
  by_cases h : b < a
  · rw [if_pos (show lN a > lN b from h1.mpr h)]
    exact ⟨fun q => absurd q (by decide), fun q => by omega⟩
  · rw [if_neg (show ¬ lN a > lN b from fun q => h (h1.mp q))]
    refine ⟨fun _ => by omega, fun _ => ?_⟩
    split <;> decide
theorem kx_U_end {R ov : Nat} (h : R < kw_M 8) : kx_U R ov 8 = kp_fold kG_P (R + ov * kw_M 8) := by
  unfold kx_U kp_fold kG_P
  rw [if_neg (by decide), if_neg (by decide), Nat.add_mul_mod_self_right, Nat.mod_eq_of_lt h, Nat.add_mul_div_right _ _ (kw_M_pos 8), Nat.div_eq_of_lt h]
  omega
theorem kx_T_0 (V : Nat) : kx_T V 0 = 0 := by
  unfold kx_T
  rw [kw_M_0, Nat.mod_one, Nat.mod_one, if_pos rfl]
theorem kx_U_0 (R ov : Nat) : kx_U R ov 0 = 0 := by
  unfold kx_U
  rw [kw_M_0, Nat.mod_one, if_pos rfl, if_pos (by decide)]
theorem kp_folds_s (G n V : Nat) : kp_folds G (n + 1) V = kp_folds G n (kp_fold G V) := rfl
theorem kp_folds_z (G V : Nat) : kp_folds G 0 V = V := rfl
theorem d_Mo_times_1_0 : decode b_Mo_times_1 0 = .ok (.aload_n 0, 1) := by decide +kernel
theorem d_Mo_times_1_1 : decode b_Mo_times_1 1 = .ok (.aload_n 2, 1) := by decide +kernel
theorem d_Mo_times_1_2 : decode b_Mo_times_1 2 = .ok (.aload_n 3, 1) := by decide +kernel
theorem d_Mo_times_1_3 : decode b_Mo_times_1 3 = .ok (.invokevirtual 84, 3) := by decide +kernel
theorem d_Mo_times_1_6 : decode b_Mo_times_1 6 = .ok (.lconst 0, 1) := by decide +kernel
theorem d_Mo_times_1_7 : decode b_Mo_times_1 7 = .ok (.lstore 4, 2) := by decide +kernel
theorem d_Mo_times_1_9 : decode b_Mo_times_1 9 = .ok (.iconst 0, 1) := by decide +kernel
theorem d_Mo_times_1_10 : decode b_Mo_times_1 10 = .ok (.istore 6, 2) := by decide +kernel
theorem d_Mo_times_1_12 : decode b_Mo_times_1 12 = .ok (.iload 6, 2) := by decide +kernel
theorem d_Mo_times_1_14 : decode b_Mo_times_1 14 = .ok (.bipush 8, 2) := by decide +kernel
theorem d_Mo_times_1_16 : decode b_Mo_times_1 16 = .ok (.if_icmp .ge 85, 3) := by decide +kernel
theorem d_Mo_times_1_19 : decode b_Mo_times_1 19 = .ok (.lload 4, 2) := by decide +kernel
theorem d_Mo_times_1_21 : decode b_Mo_times_1 21 = .ok (.aload_n 0, 1) := by decide +kernel
theorem d_Mo_times_1_22 : decode b_Mo_times_1 22 = .ok (.getfield 37, 3) := by decide +kernel
theorem d_Mo_times_1_25 : decode b_Mo_times_1 25 = .ok (.iload 6, 2) := by decide +kernel
theorem d_Mo_times_1_27 : decode b_Mo_times_1 27 = .ok (.iaload, 1) := by decide +kernel
theorem d_Mo_times_1_28 : decode b_Mo_times_1 28 = .ok (.i2l, 1) := by decide +kernel
theorem d_Mo_times_1_29 : decode b_Mo_times_1 29 = .ok (.ldc2_w 76, 3) := by decide +kernel
theorem d_Mo_times_1_32 : decode b_Mo_times_1 32 = .ok (.land, 1) := by decide +kernel
theorem d_Mo_times_1_33 : decode b_Mo_times_1 33 = .ok (.aload_n 0, 1) := by decide +kernel
theorem d_Mo_times_1_34 : decode b_Mo_times_1 34 = .ok (.getfield 37, 3) := by decide +kernel
theorem d_Mo_times_1_37 : decode b_Mo_times_1 37 = .ok (.bipush 8, 2) := by decide +kernel
theorem d_Mo_times_1_39 : decode b_Mo_times_1 39 = .ok (.iload 6, 2) := by decide +kernel
theorem d_Mo_times_1_41 : decode b_Mo_times_1 41 = .ok (.iadd, 1) := by decide +kernel
theorem d_Mo_times_1_42 : decode b_Mo_times_1 42 = .ok (.iaload, 1) := by decide +kernel
theorem d_Mo_times_1_43 : decode b_Mo_times_1 43 = .ok (.i2l, 1) := by decide +kernel
theorem d_Mo_times_1_44 : decode b_Mo_times_1 44 = .ok (.ldc2_w 76, 3) := by decide +kernel
theorem d_Mo_times_1_47 : decode b_Mo_times_1 47 = .ok (.land, 1) := by decide +kernel
theorem d_Mo_times_1_48 : decode b_Mo_times_1 48 = .ok (.ldc2_w 88, 3) := by decide +kernel
theorem d_Mo_times_1_51 : decode b_Mo_times_1 51 = .ok (.lmul, 1) := by decide +kernel
theorem d_Mo_times_1_52 : decode b_Mo_times_1 52 = .ok (.ladd, 1) := by decide +kernel
theorem d_Mo_times_1_53 : decode b_Mo_times_1 53 = .ok (.iload 6, 2) := by decide +kernel
theorem d_Mo_times_1_55 : decode b_Mo_times_1 55 = .ok (.ifCond .le 21, 3) := by decide +kernel
theorem d_Mo_times_1_58 : decode b_Mo_times_1 58 = .ok (.aload_n 0, 1) := by decide +kernel
theorem d_Mo_times_1_59 : decode b_Mo_times_1 59 = .ok (.getfield 37, 3) := by decide +kernel
theorem d_Mo_times_1_62 : decode b_Mo_times_1 62 = .ok (.bipush 7, 2) := by decide +kernel
theorem d_Mo_times_1_64 : decode b_Mo_times_1 64 = .ok (.iload 6, 2) := by decide +kernel
theorem d_Mo_times_1_66 : decode b_Mo_times_1 66 = .ok (.iadd, 1) := by decide +kernel
theorem d_Mo_times_1_67 : decode b_Mo_times_1 67 = .ok (.iaload, 1) := by decide +kernel
theorem d_Mo_times_1_68 : decode b_Mo_times_1 68 = .ok (.i2l, 1) := by decide +kernel
theorem d_Mo_times_1_69 : decode b_Mo_times_1 69 = .ok (.ldc2_w 76, 3) := by decide +kernel
theorem d_Mo_times_1_72 : decode b_Mo_times_1 72 = .ok (.land, 1) := by decide +kernel
theorem d_Mo_times_1_73 : decode b_Mo_times_1 73 = .ok (.goto 4, 3) := by decide +kernel
theorem d_Mo_times_1_76 : decode b_Mo_times_1 76 = .ok (.lconst 0, 1) := by decide +kernel
theorem d_Mo_times_1_77 : decode b_Mo_times_1 77 = .ok (.ladd, 1) := by decide +kernel
theorem d_Mo_times_1_78 : decode b_Mo_times_1 78 = .ok (.ladd, 1) := by decide +kernel
theorem d_Mo_times_1_79 : decode b_Mo_times_1 79 = .ok (.lstore 4, 2) := by decide +kernel
theorem d_Mo_times_1_81 : decode b_Mo_times_1 81 = .ok (.aload_n 1, 1) := by decide +kernel
theorem d_Mo_times_1_82 : decode b_Mo_times_1 82 = .ok (.iload 6, 2) := by decide +kernel
theorem d_Mo_times_1_84 : decode b_Mo_times_1 84 = .ok (.lload 4, 2) := by decide +kernel
theorem d_Mo_times_1_86 : decode b_Mo_times_1 86 = .ok (.l2i, 1) := by decide +kernel
theorem d_Mo_times_1_87 : decode b_Mo_times_1 87 = .ok (.iastore, 1) := by decide +kernel
theorem d_Mo_times_1_88 : decode b_Mo_times_1 88 = .ok (.lload 4, 2) := by decide +kernel
theorem d_Mo_times_1_90 : decode b_Mo_times_1 90 = .ok (.bipush 32, 2) := by decide +kernel
theorem d_Mo_times_1_92 : decode b_Mo_times_1 92 = .ok (.lushr, 1) := by decide +kernel
theorem d_Mo_times_1_93 : decode b_Mo_times_1 93 = .ok (.lstore 4, 2) := by decide +kernel
theorem d_Mo_times_1_95 : decode b_Mo_times_1 95 = .ok (.iinc 6 1, 3) := by decide +kernel
theorem d_Mo_times_1_98 : decode b_Mo_times_1 98 = .ok (.goto (-86), 3) := by decide +kernel
theorem d_Mo_times_1_101 : decode b_Mo_times_1 101 = .ok (.lload 4, 2) := by decide +kernel
theorem d_Mo_times_1_103 : decode b_Mo_times_1 103 = .ok (.aload_n 0, 1) := by decide +kernel
theorem d_Mo_times_1_104 : decode b_Mo_times_1 104 = .ok (.getfield 37, 3) := by decide +kernel
theorem d_Mo_times_1_107 : decode b_Mo_times_1 107 = .ok (.bipush 15, 2) := by decide +kernel
theorem d_Mo_times_1_109 : decode b_Mo_times_1 109 = .ok (.iaload, 1) := by decide +kernel
theorem d_Mo_times_1_110 : decode b_Mo_times_1 110 = .ok (.i2l, 1) := by decide +kernel
theorem d_Mo_times_1_111 : decode b_Mo_times_1 111 = .ok (.ldc2_w 76, 3) := by decide +kernel
theorem d_Mo_times_1_114 : decode b_Mo_times_1 114 = .ok (.land, 1) := by decide +kernel
theorem d_Mo_times_1_115 : decode b_Mo_times_1 115 = .ok (.ladd, 1) := by decide +kernel
theorem d_Mo_times_1_116 : decode b_Mo_times_1 116 = .ok (.lstore 6, 2) := by decide +kernel
theorem d_Mo_times_1_118 : decode b_Mo_times_1 118 = .ok (.lload 6, 2) := by decide +kernel
theorem d_Mo_times_1_120 : decode b_Mo_times_1 120 = .ok (.lconst 0, 1) := by decide +kernel
theorem d_Mo_times_1_121 : decode b_Mo_times_1 121 = .ok (.lcmp, 1) := by decide +kernel
theorem d_Mo_times_1_122 : decode b_Mo_times_1 122 = .ok (.ifCond .le 84, 3) := by decide +kernel
theorem d_Mo_times_1_125 : decode b_Mo_times_1 125 = .ok (.lconst 0, 1) := by decide +kernel
theorem d_Mo_times_1_126 : decode b_Mo_times_1 126 = .ok (.lstore 4, 2) := by decide +kernel
theorem d_Mo_times_1_128 : decode b_Mo_times_1 128 = .ok (.iconst 0, 1) := by decide +kernel
theorem d_Mo_times_1_129 : decode b_Mo_times_1 129 = .ok (.istore 8, 2) := by decide +kernel
theorem d_Mo_times_1_131 : decode b_Mo_times_1 131 = .ok (.iload 8, 2) := by decide +kernel
theorem d_Mo_times_1_133 : decode b_Mo_times_1 133 = .ok (.bipush 8, 2) := by decide +kernel
theorem d_Mo_times_1_135 : decode b_Mo_times_1 135 = .ok (.if_icmp .ge 64, 3) := by decide +kernel
theorem d_Mo_times_1_138 : decode b_Mo_times_1 138 = .ok (.lload 4, 2) := by decide +kernel
theorem d_Mo_times_1_140 : decode b_Mo_times_1 140 = .ok (.aload_n 1, 1) := by decide +kernel
theorem d_Mo_times_1_141 : decode b_Mo_times_1 141 = .ok (.iload 8, 2) := by decide +kernel
theorem d_Mo_times_1_143 : decode b_Mo_times_1 143 = .ok (.iaload, 1) := by decide +kernel
theorem d_Mo_times_1_144 : decode b_Mo_times_1 144 = .ok (.i2l, 1) := by decide +kernel
theorem d_Mo_times_1_145 : decode b_Mo_times_1 145 = .ok (.ldc2_w 76, 3) := by decide +kernel
theorem d_Mo_times_1_148 : decode b_Mo_times_1 148 = .ok (.land, 1) := by decide +kernel
theorem d_Mo_times_1_149 : decode b_Mo_times_1 149 = .ok (.iload 8, 2) := by decide +kernel
theorem d_Mo_times_1_151 : decode b_Mo_times_1 151 = .ok (.ifCond .ne 12, 3) := by decide +kernel
theorem d_Mo_times_1_154 : decode b_Mo_times_1 154 = .ok (.lload 6, 2) := by decide +kernel
theorem d_Mo_times_1_156 : decode b_Mo_times_1 156 = .ok (.ldc2_w 88, 3) := by decide +kernel
theorem d_Mo_times_1_159 : decode b_Mo_times_1 159 = .ok (.lmul, 1) := by decide +kernel
theorem d_Mo_times_1_160 : decode b_Mo_times_1 160 = .ok (.goto 15, 3) := by decide +kernel
theorem d_Mo_times_1_163 : decode b_Mo_times_1 163 = .ok (.iload 8, 2) := by decide +kernel
theorem d_Mo_times_1_165 : decode b_Mo_times_1 165 = .ok (.iconst 1, 1) := by decide +kernel
theorem d_Mo_times_1_166 : decode b_Mo_times_1 166 = .ok (.if_icmp .ne 8, 3) := by decide +kernel
theorem d_Mo_times_1_169 : decode b_Mo_times_1 169 = .ok (.lload 6, 2) := by decide +kernel
theorem d_Mo_times_1_171 : decode b_Mo_times_1 171 = .ok (.goto 4, 3) := by decide +kernel
theorem d_Mo_times_1_174 : decode b_Mo_times_1 174 = .ok (.lconst 0, 1) := by decide +kernel
theorem d_Mo_times_1_175 : decode b_Mo_times_1 175 = .ok (.ladd, 1) := by decide +kernel
theorem d_Mo_times_1_176 : decode b_Mo_times_1 176 = .ok (.ladd, 1) := by decide +kernel
theorem d_Mo_times_1_177 : decode b_Mo_times_1 177 = .ok (.lstore 4, 2) := by decide +kernel
theorem d_Mo_times_1_179 : decode b_Mo_times_1 179 = .ok (.aload_n 1, 1) := by decide +kernel
theorem d_Mo_times_1_180 : decode b_Mo_times_1 180 = .ok (.iload 8, 2) := by decide +kernel
theorem d_Mo_times_1_182 : decode b_Mo_times_1 182 = .ok (.lload 4, 2) := by decide +kernel
theorem d_Mo_times_1_184 : decode b_Mo_times_1 184 = .ok (.l2i, 1) := by decide +kernel
theorem d_Mo_times_1_185 : decode b_Mo_times_1 185 = .ok (.iastore, 1) := by decide +kernel
theorem d_Mo_times_1_186 : decode b_Mo_times_1 186 = .ok (.lload 4, 2) := by decide +kernel
theorem d_Mo_times_1_188 : decode b_Mo_times_1 188 = .ok (.bipush 32, 2) := by decide +kernel
theorem d_Mo_times_1_190 : decode b_Mo_times_1 190 = .ok (.lushr, 1) := by decide +kernel
theorem d_Mo_times_1_191 : decode b_Mo_times_1 191 = .ok (.lstore 4, 2) := by decide +kernel
theorem d_Mo_times_1_193 : decode b_Mo_times_1 193 = .ok (.iinc 8 1, 3) := by decide +kernel
theorem d_Mo_times_1_196 : decode b_Mo_times_1 196 = .ok (.goto (-65), 3) := by decide +kernel
theorem d_Mo_times_1_199 : decode b_Mo_times_1 199 = .ok (.lload 4, 2) := by decide +kernel
theorem d_Mo_times_1_201 : decode b_Mo_times_1 201 = .ok (.lstore 6, 2) := by decide +kernel
theorem d_Mo_times_1_203 : decode b_Mo_times_1 203 = .ok (.goto (-85), 3) := by decide +kernel
theorem d_Mo_times_1_206 : decode b_Mo_times_1 206 = .ok (.aload_n 1, 1) := by decide +kernel
theorem d_Mo_times_1_207 : decode b_Mo_times_1 207 = .ok (.getstatic 90, 3) := by decide +kernel
theorem d_Mo_times_1_210 : decode b_Mo_times_1 210 = .ok (.invokestatic 93, 3) := by decide +kernel
theorem d_Mo_times_1_213 : decode b_Mo_times_1 213 = .ok (.ifCond .lt 12, 3) := by decide +kernel
theorem d_Mo_times_1_216 : decode b_Mo_times_1 216 = .ok (.aload_n 1, 1) := by decide +kernel
theorem d_Mo_times_1_217 : decode b_Mo_times_1 217 = .ok (.aload_n 1, 1) := by decide +kernel
theorem d_Mo_times_1_218 : decode b_Mo_times_1 218 = .ok (.getstatic 90, 3) := by decide +kernel
theorem d_Mo_times_1_221 : decode b_Mo_times_1 221 = .ok (.invokestatic 97, 3) := by decide +kernel
theorem d_Mo_times_1_224 : decode b_Mo_times_1 224 = .ok (.pop, 1) := by decide +kernel
theorem d_Mo_times_1_225 : decode b_Mo_times_1 225 = .ok (.return_, 1) := by decide +kernel
section
variable {p : Program} {l : Launch} {e : Env} {R : Room} {s : State} {m : MethodId} {args : Array Value} {below : List Frame} {meth : Method} {c : Code} {cells slots : Nat} {Q : State → Prop}
set_option maxHeartbeats 4000000 in
set_option maxRecDepth 100000 in
theorem la_Mo_times_1 (hx : p.tables.exec = Jvm.exec) (hb : c.code = b_Mo_times_1) (hts : ∀ w ∈ w_Mo_times_1, w.before args s = true) (hown : s.vm.findClass R_Mo = some m.cls) {E : ks_E} {mo : Nat} {far : Bool} (hE : ks_ok E) (hO : ks_O E mo far) (hB : ks_B E s) {r : Nat} {v : Nat → Nat} (hr : ks_out E r)
    (kk : ∀ (w : Nat → Nat) (H : Heap) (cy : Nat) (ls : Array Slot) (locs : List Loc), ks_W E w H → cy ≤ 979 → w r % kw_M 8 + cy * kw_M 8 = kx_T (v (mo + 21)) 8 → (∀ q, q ≠ r → w q = v q) → (∀ q ∈ locs, q.base = r ∨ q.base = mo + 21) → lv_has ls 9 [(4, .long (lN cy)), (0, .ref mo), (1, .ref r)] → W p l e R s m args below meth c H locs 0 0 Q (F0 m 101 ls [])) :
    ∀ (n k : Nat) (w : Nat → Nat) (H : Heap) (cy : Nat) (ls : Array Slot) (locs : List Loc), k + n = 8 → ks_W E w H → cy ≤ 979 → w r % kw_M k + cy * kw_M k = kx_T (v (mo + 21)) k → (∀ q, q ≠ r → w q = v q) → (∀ q ∈ locs, q.base = r ∨ q.base = mo + 21) → lv_has ls 9 [(6, .int (nI k)), (4, .long (lN cy)), (0, .ref mo), (1, .ref r)] → W p l e R s m args below meth c H locs 0 0 Q (F0 m 12 ls []) := by
  intro n
  induction n with
  | zero =>
    intro k w H cy ls locs hn hW hcy hI ho hlc hl
    obtain rfl : k = 8 := by omega
    refine lv_iload hx hb d_Mo_times_1_12 (lv_at hl 0 rfl) ?_
    refine lv_bipush (v := nI 8) hx hb d_Mo_times_1_14 (by decide) ?_
    refine lv_icmp_ge hx hb d_Mo_times_1_16 rfl (fun hc => ?_) (fun hc => ?_)
    · exact kk w H cy ls locs hW hcy hI ho hlc (lv_sub hl [1, 2, 3] rfl)
    · exact absurd (nI_le (Nat.le_refl 8) (by decide)) hc
  | succ n ih =>
    intro k w H cy ls locs hn hW hcy hI ho hlc hl
    have hk : k < 8 := by omega
    have hK := hB.1
    have hT := ks_T hE hB
    have hOo := ks_obj hW hO.1 hO.2.1
    have hrne : mo + 21 ≠ r := (ks_in_ne hE hO (Or.inl hr)).symm
    obtain ⟨hw1, hw2⟩ := ks_wide hO hW
    rw [ho (mo + 21) hrne] at hw1 hw2
    have hsw : kq_r s .int H (mo + 21) 16 (fun j => .int (nI (kw_d (v (mo + 21)) j))) := kq_r.ofV hT hw1
    have l1 := kw_d_lt (v (mo + 21)) k
    have l2 := kw_d_lt (v (mo + 21)) (8 + k)
    have l3 := kw_d_lt (v (mo + 21)) (7 + k)
    have hlr := ks_lt hE hW (Or.inl hr)
    have hrr := ks_row hW hr
    have hTs := kx_T_s (v (mo + 21)) k
    refine lv_iload hx hb d_Mo_times_1_12 (lv_at hl 0 rfl) ?_
    refine lv_bipush (v := nI 8) hx hb d_Mo_times_1_14 (by decide) ?_
    refine lv_icmp_ge hx hb d_Mo_times_1_16 rfl (fun hc => ?_) (fun hc => ?_)
    · exact absurd hc (nI_ge hk (by decide))
    · refine lv_lload hx hb d_Mo_times_1_19 (lv_at hl 1 rfl) ?_
      refine lv_aload_n hx hb d_Mo_times_1_21 rfl (lv_at hl 2 rfl) ?_
      refine kq_get hx hb hts kt_F_Mo hown hK hOo rfl 8 (by decide) kt_w384 rfl d_Mo_times_1_22 ?_
      refine lv_iload hx hb d_Mo_times_1_25 (lv_at hl 0 rfl) ?_
      refine kq_iald hx hb (hsw) ((by omega)) (by decide) (rfl) d_Mo_times_1_27 ?_
      refine lv_i2l (v := (nI (kw_d (v (mo + 21)) k)).toInt64) hx hb d_Mo_times_1_28 (rfl) ?_
      refine lv_ldc2 hx hb hown (v := lN 4294967295) (hts _ (List.mem_cons_of_mem _ kt_w476)) d_Mo_times_1_29 ?_
      refine lv_land hx hb d_Mo_times_1_32 ?_
      refine kq_rl (show ((nI (kw_d (v (mo + 21)) k)).toInt64) &&& (lN 4294967295) = lN (kw_d (v (mo + 21)) k) from kx_maskN l1) ?_
      refine lv_aload_n hx hb d_Mo_times_1_33 rfl (lv_at hl 2 rfl) ?_
      refine kq_get hx hb hts kt_F_Mo hown hK hOo rfl 8 (by decide) kt_w384 rfl d_Mo_times_1_34 ?_
      refine lv_bipush (v := nI 8) hx hb d_Mo_times_1_37 (by decide) ?_
      refine lv_iload hx hb d_Mo_times_1_39 (lv_at hl 0 rfl) ?_
      refine lv_iadd hx hb d_Mo_times_1_41 ?_
      refine kq_ri (show (nI 8) + (nI k) = nI (8 + k) from nI_add _ _) ?_
      refine kq_iald hx hb (hsw) ((by omega)) (by decide) (rfl) d_Mo_times_1_42 ?_
      refine lv_i2l (v := (nI (kw_d (v (mo + 21)) (8 + k))).toInt64) hx hb d_Mo_times_1_43 (rfl) ?_
      refine lv_ldc2 hx hb hown (v := lN 4294967295) (hts _ (List.mem_cons_of_mem _ kt_w476)) d_Mo_times_1_44 ?_
      refine lv_land hx hb d_Mo_times_1_47 ?_
      refine kq_rl (show ((nI (kw_d (v (mo + 21)) (8 + k))).toInt64) &&& (lN 4294967295) = lN (kw_d (v (mo + 21)) (8 + k)) from kx_maskN l2) ?_
      refine lv_ldc2 hx hb hown (v := lN 977) (hts _ (List.mem_cons_of_mem _ kt_w500)) d_Mo_times_1_48 ?_
      refine lv_lmul hx hb d_Mo_times_1_51 ?_
      refine kq_rl (show (lN (kw_d (v (mo + 21)) (8 + k))) * (lN 977) = lN (kw_d (v (mo + 21)) (8 + k) * 977) from lN_mul _ _) ?_
      refine lv_ladd hx hb d_Mo_times_1_52 ?_
      refine kq_rl (show (lN (kw_d (v (mo + 21)) k)) + (lN (kw_d (v (mo + 21)) (8 + k) * 977)) = lN (kw_d (v (mo + 21)) k + kw_d (v (mo + 21)) (8 + k) * 977) from lN_add _ _) ?_
      refine lv_iload hx hb d_Mo_times_1_53 (lv_at hl 0 rfl) ?_
      refine lv_if_le hx hb d_Mo_times_1_55 rfl (fun hk0 => ?_) (fun hk0 => ?_)
      · have k0 : k = 0 := Classical.byContradiction fun q => nI_nle (n := k) (by omega) (by omega) hk0
        refine lv_lconst (v := lN 0) hx hb d_Mo_times_1_76 (by decide) ?_
        refine lv_ladd hx hb d_Mo_times_1_77 ?_
        refine kq_rl (show (lN (kw_d (v (mo + 21)) k + kw_d (v (mo + 21)) (8 + k) * 977)) + (lN 0) = lN (kw_d (v (mo + 21)) k + kw_d (v (mo + 21)) (8 + k) * 977 + 0) from lN_add _ _) ?_
        refine lv_ladd hx hb d_Mo_times_1_78 ?_
        refine kq_rl (show (lN cy) + (lN (kw_d (v (mo + 21)) k + kw_d (v (mo + 21)) (8 + k) * 977 + 0)) = lN (cy + (kw_d (v (mo + 21)) k + kw_d (v (mo + 21)) (8 + k) * 977 + 0)) from lN_add _ _) ?_
        refine lv_lstore hx hb d_Mo_times_1_79 hl (by decide) rfl (fun ls hl => ?_)
        have hl : lv_has ls 9 [(4, .long (lN (cy + (kw_d (v (mo + 21)) k + kw_d (v (mo + 21)) (8 + k) * 977 + 0)))), (6, .int (nI k)), (0, .ref mo), (1, .ref r)] := hl
        refine lv_aload_n hx hb d_Mo_times_1_81 rfl (lv_at hl 3 rfl) ?_
        refine lv_iload hx hb d_Mo_times_1_82 (lv_at hl 1 rfl) ?_
        refine lv_lload hx hb d_Mo_times_1_84 (lv_at hl 0 rfl) ?_
        refine lv_l2i (v := nI ((cy + (kw_d (v (mo + 21)) k + kw_d (v (mo + 21)) (8 + k) * 977 + 0)) % 4294967296)) hx hb d_Mo_times_1_86 (by rw [lN_i, nI_mod]) ?_
        refine kq_iast hx hb (hT) (hrr) (hk) (by decide) (Nat.mod_lt _ (by decide)) d_Mo_times_1_87 ?_
        refine lv_lload hx hb d_Mo_times_1_88 (lv_at hl 0 rfl) ?_
        refine lv_bipush (v := nI 32) hx hb d_Mo_times_1_90 (by decide) ?_
        refine lv_lushr (v := lN ((cy + (kw_d (v (mo + 21)) k + kw_d (v (mo + 21)) (8 + k) * 977 + 0)) / 4294967296)) hx hb d_Mo_times_1_92 (kq_ushr32 (by omega)) ?_
        refine lv_lstore hx hb d_Mo_times_1_93 hl (by decide) rfl (fun ls hl => ?_)
        have hl : lv_has ls 9 [(4, .long (lN ((cy + (kw_d (v (mo + 21)) k + kw_d (v (mo + 21)) (8 + k) * 977 + 0)) / 4294967296))), (6, .int (nI k)), (0, .ref mo), (1, .ref r)] := hl
        refine lv_iinc (k := 1) (v := nI (k + 1)) hx hb d_Mo_times_1_95 hl rfl (kq_inc k) (by decide) rfl (fun ls hl => ?_)
        have hl : lv_has ls 9 [(6, .int (nI (k + 1))), (4, .long (lN ((cy + (kw_d (v (mo + 21)) k + kw_d (v (mo + 21)) (8 + k) * 977 + 0)) / 4294967296))), (0, .ref mo), (1, .ref r)] := hl
        refine lv_goto hx hb d_Mo_times_1_98 rfl ?_
        have lx : (cy + (kw_d (v (mo + 21)) k + kw_d (v (mo + 21)) (8 + k) * 977 + 0)) % 4294967296 < 4294967296 := Nat.mod_lt _ (by decide)
        have hW1 := ks_put hE hW hr (kw_s_lt hlr hk lx)
        refine ih (k + 1) _ _ ((cy + (kw_d (v (mo + 21)) k + kw_d (v (mo + 21)) (8 + k) * 977 + 0)) / 4294967296) ls _ (by omega) hW1 (by omega) ?_ (fun q hq => by rw [kq_up_ne hq]; exact ho q hq) (t_lc (free := fun q => q = r ∨ q = mo + 21) hlc (Or.inl rfl)) (lv_sub hl [0, 1, 2, 3] rfl)
        rw [kq_up_at, hTs, kw_M_s, if_pos k0]
        exact kx_step (by rw [← kw_M_s]; exact kw_s_lo _ _ _ lx) rfl (Nat.div_add_mod _ _).symm hI
      · have k0 : ¬ k = 0 := fun q => hk0 (by rw [q]; decide)
        refine lv_aload_n hx hb d_Mo_times_1_58 rfl (lv_at hl 2 rfl) ?_
        refine kq_get hx hb hts kt_F_Mo hown hK hOo rfl 8 (by decide) kt_w384 rfl d_Mo_times_1_59 ?_
        refine lv_bipush (v := nI 7) hx hb d_Mo_times_1_62 (by decide) ?_
        refine lv_iload hx hb d_Mo_times_1_64 (lv_at hl 0 rfl) ?_
        refine lv_iadd hx hb d_Mo_times_1_66 ?_
        refine kq_ri (show (nI 7) + (nI k) = nI (7 + k) from nI_add _ _) ?_
        refine kq_iald hx hb (hsw) ((by omega)) (by decide) (rfl) d_Mo_times_1_67 ?_
        refine lv_i2l (v := (nI (kw_d (v (mo + 21)) (7 + k))).toInt64) hx hb d_Mo_times_1_68 (rfl) ?_
        refine lv_ldc2 hx hb hown (v := lN 4294967295) (hts _ (List.mem_cons_of_mem _ kt_w476)) d_Mo_times_1_69 ?_
        refine lv_land hx hb d_Mo_times_1_72 ?_
        refine kq_rl (show ((nI (kw_d (v (mo + 21)) (7 + k))).toInt64) &&& (lN 4294967295) = lN (kw_d (v (mo + 21)) (7 + k)) from kx_maskN l3) ?_
        refine lv_goto hx hb d_Mo_times_1_73 rfl ?_
        refine lv_ladd hx hb d_Mo_times_1_77 ?_
        refine kq_rl (show (lN (kw_d (v (mo + 21)) k + kw_d (v (mo + 21)) (8 + k) * 977)) + (lN (kw_d (v (mo + 21)) (7 + k))) = lN (kw_d (v (mo + 21)) k + kw_d (v (mo + 21)) (8 + k) * 977 + kw_d (v (mo + 21)) (7 + k)) from lN_add _ _) ?_
        refine lv_ladd hx hb d_Mo_times_1_78 ?_
        refine kq_rl (show (lN cy) + (lN (kw_d (v (mo + 21)) k + kw_d (v (mo + 21)) (8 + k) * 977 + kw_d (v (mo + 21)) (7 + k))) = lN (cy + (kw_d (v (mo + 21)) k + kw_d (v (mo + 21)) (8 + k) * 977 + kw_d (v (mo + 21)) (7 + k))) from lN_add _ _) ?_
        refine lv_lstore hx hb d_Mo_times_1_79 hl (by decide) rfl (fun ls hl => ?_)
        have hl : lv_has ls 9 [(4, .long (lN (cy + (kw_d (v (mo + 21)) k + kw_d (v (mo + 21)) (8 + k) * 977 + kw_d (v (mo + 21)) (7 + k))))), (6, .int (nI k)), (0, .ref mo), (1, .ref r)] := hl
        refine lv_aload_n hx hb d_Mo_times_1_81 rfl (lv_at hl 3 rfl) ?_
        refine lv_iload hx hb d_Mo_times_1_82 (lv_at hl 1 rfl) ?_
        refine lv_lload hx hb d_Mo_times_1_84 (lv_at hl 0 rfl) ?_
        refine lv_l2i (v := nI ((cy + (kw_d (v (mo + 21)) k + kw_d (v (mo + 21)) (8 + k) * 977 + kw_d (v (mo + 21)) (7 + k))) % 4294967296)) hx hb d_Mo_times_1_86 (by rw [lN_i, nI_mod]) ?_
        refine kq_iast hx hb (hT) (hrr) (hk) (by decide) (Nat.mod_lt _ (by decide)) d_Mo_times_1_87 ?_
        refine lv_lload hx hb d_Mo_times_1_88 (lv_at hl 0 rfl) ?_
        refine lv_bipush (v := nI 32) hx hb d_Mo_times_1_90 (by decide) ?_
        refine lv_lushr (v := lN ((cy + (kw_d (v (mo + 21)) k + kw_d (v (mo + 21)) (8 + k) * 977 + kw_d (v (mo + 21)) (7 + k))) / 4294967296)) hx hb d_Mo_times_1_92 (kq_ushr32 (by omega)) ?_
        refine lv_lstore hx hb d_Mo_times_1_93 hl (by decide) rfl (fun ls hl => ?_)
        have hl : lv_has ls 9 [(4, .long (lN ((cy + (kw_d (v (mo + 21)) k + kw_d (v (mo + 21)) (8 + k) * 977 + kw_d (v (mo + 21)) (7 + k))) / 4294967296))), (6, .int (nI k)), (0, .ref mo), (1, .ref r)] := hl
        refine lv_iinc (k := 1) (v := nI (k + 1)) hx hb d_Mo_times_1_95 hl rfl (kq_inc k) (by decide) rfl (fun ls hl => ?_)
        have hl : lv_has ls 9 [(6, .int (nI (k + 1))), (4, .long (lN ((cy + (kw_d (v (mo + 21)) k + kw_d (v (mo + 21)) (8 + k) * 977 + kw_d (v (mo + 21)) (7 + k))) / 4294967296))), (0, .ref mo), (1, .ref r)] := hl
        refine lv_goto hx hb d_Mo_times_1_98 rfl ?_
        have lx : (cy + (kw_d (v (mo + 21)) k + kw_d (v (mo + 21)) (8 + k) * 977 + kw_d (v (mo + 21)) (7 + k))) % 4294967296 < 4294967296 := Nat.mod_lt _ (by decide)
        have hW1 := ks_put hE hW hr (kw_s_lt hlr hk lx)
        refine ih (k + 1) _ _ ((cy + (kw_d (v (mo + 21)) k + kw_d (v (mo + 21)) (8 + k) * 977 + kw_d (v (mo + 21)) (7 + k))) / 4294967296) ls _ (by omega) hW1 (by omega) ?_ (fun q hq => by rw [kq_up_ne hq]; exact ho q hq) (t_lc (free := fun q => q = r ∨ q = mo + 21) hlc (Or.inl rfl)) (lv_sub hl [0, 1, 2, 3] rfl)
        rw [kq_up_at, hTs, kw_M_s, if_neg k0]
        exact kx_step (by rw [← kw_M_s]; exact kw_s_lo _ _ _ lx) rfl (Nat.div_add_mod _ _).symm hI
set_option maxHeartbeats 4000000 in
set_option maxRecDepth 100000 in
theorem lb_Mo_times_1 (hx : p.tables.exec = Jvm.exec) (hb : c.code = b_Mo_times_1) (hts : ∀ w ∈ w_Mo_times_1, w.before args s = true) (hown : s.vm.findClass R_Mo = some m.cls) {E : ks_E} {mo : Nat} {far : Bool} (hE : ks_ok E) (hO : ks_O E mo far) (hB : ks_B E s) {r R0 ov : Nat} {v : Nat → Nat} (hr : ks_out E r) (hov : ov < 17179869184)
    (kk : ∀ (w : Nat → Nat) (H : Heap) (cy : Nat) (ls : Array Slot) (locs : List Loc), ks_W E w H → cy < 8192 → w r % kw_M 8 + cy * kw_M 8 = kx_U R0 ov 8 → (∀ q, q ≠ r → w q = v q) → (∀ q ∈ locs, q.base = r ∨ q.base = mo + 21) → lv_has ls 9 [(4, .long (lN cy)), (0, .ref mo), (1, .ref r)] → W p l e R s m args below meth c H locs 0 0 Q (F0 m 199 ls [])) :
    ∀ (n k : Nat) (w : Nat → Nat) (H : Heap) (cy : Nat) (ls : Array Slot) (locs : List Loc), k + n = 8 → ks_W E w H → cy < 8192 → w r % kw_M k + cy * kw_M k = kx_U R0 ov k → (∀ j, k ≤ j → kw_d (w r) j = kw_d R0 j) → (∀ q, q ≠ r → w q = v q) → (∀ q ∈ locs, q.base = r ∨ q.base = mo + 21) → lv_has ls 9 [(8, .int (nI k)), (4, .long (lN cy)), (6, .long (lN ov)), (0, .ref mo), (1, .ref r)] → W p l e R s m args below meth c H locs 0 0 Q (F0 m 131 ls []) := by
  intro n
  induction n with
  | zero =>
    intro k w H cy ls locs hn hW hcy hI hj ho hlc hl
    obtain rfl : k = 8 := by omega
    refine lv_iload hx hb d_Mo_times_1_131 (lv_at hl 0 rfl) ?_
    refine lv_bipush (v := nI 8) hx hb d_Mo_times_1_133 (by decide) ?_
    refine lv_icmp_ge hx hb d_Mo_times_1_135 rfl (fun hc => ?_) (fun hc => ?_)
    · exact kk w H cy ls locs hW hcy hI ho hlc (lv_sub hl [1, 3, 4] rfl)
    · exact absurd (nI_le (Nat.le_refl 8) (by decide)) hc
  | succ n ih =>
    intro k w H cy ls locs hn hW hcy hI hj ho hlc hl
    have hk : k < 8 := by omega
    have hK := hB.1
    have hT := ks_T hE hB
    have hsr := ks_src hE hW hB (Or.inl hr)
    have hlr := ks_lt hE hW (Or.inl hr)
    have hrr := ks_row hW hr
    have hd := hj k (Nat.le_refl k)
    have l1 := kw_d_lt R0 k
    have hUs := kx_U_s R0 ov k
    refine lv_iload hx hb d_Mo_times_1_131 (lv_at hl 0 rfl) ?_
    refine lv_bipush (v := nI 8) hx hb d_Mo_times_1_133 (by decide) ?_
    refine lv_icmp_ge hx hb d_Mo_times_1_135 rfl (fun hc => ?_) (fun hc => ?_)
    · exact absurd hc (nI_ge hk (by decide))
    · refine lv_lload hx hb d_Mo_times_1_138 (lv_at hl 1 rfl) ?_
      refine lv_aload_n hx hb d_Mo_times_1_140 rfl (lv_at hl 4 rfl) ?_
      refine lv_iload hx hb d_Mo_times_1_141 (lv_at hl 0 rfl) ?_
      refine kq_iald hx hb (hsr) (hk) (by decide) ((by show Value.int (nI (kw_d (w r) k)) = _; rw [hd])) d_Mo_times_1_143 ?_
      refine lv_i2l (v := (nI (kw_d R0 k)).toInt64) hx hb d_Mo_times_1_144 (rfl) ?_
      refine lv_ldc2 hx hb hown (v := lN 4294967295) (hts _ (List.mem_cons_of_mem _ kt_w476)) d_Mo_times_1_145 ?_
      refine lv_land hx hb d_Mo_times_1_148 ?_
      refine kq_rl (show ((nI (kw_d R0 k)).toInt64) &&& (lN 4294967295) = lN (kw_d R0 k) from kx_maskN l1) ?_
      refine lv_iload hx hb d_Mo_times_1_149 (lv_at hl 0 rfl) ?_
      refine lv_if_ne hx hb d_Mo_times_1_151 rfl (fun hk0 => ?_) (fun hk0 => ?_)
      · have k0 : ¬ k = 0 := fun q => hk0 (by rw [q]; decide)
        refine lv_iload hx hb d_Mo_times_1_163 (lv_at hl 0 rfl) ?_
        refine lv_iconst (v := nI 1) hx hb d_Mo_times_1_165 (by decide) ?_
        refine lv_icmp_ne hx hb d_Mo_times_1_166 rfl (fun hk1 => ?_) (fun hk1 => ?_)
        · have k1 : ¬ k = 1 := fun q => hk1 (by rw [q])
          refine lv_lconst (v := lN 0) hx hb d_Mo_times_1_174 (by decide) ?_
          refine kq_rl (show lN 0 = lN 0 from rfl) ?_
          refine lv_ladd hx hb d_Mo_times_1_175 ?_
          refine kq_rl (show (lN (kw_d R0 k)) + (lN 0) = lN (kw_d R0 k + 0) from lN_add _ _) ?_
          refine lv_ladd hx hb d_Mo_times_1_176 ?_
          refine kq_rl (show (lN cy) + (lN (kw_d R0 k + 0)) = lN (cy + (kw_d R0 k + 0)) from lN_add _ _) ?_
          refine lv_lstore hx hb d_Mo_times_1_177 hl (by decide) rfl (fun ls hl => ?_)
          have hl : lv_has ls 9 [(4, .long (lN (cy + (kw_d R0 k + 0)))), (8, .int (nI k)), (6, .long (lN ov)), (0, .ref mo), (1, .ref r)] := hl
          refine lv_aload_n hx hb d_Mo_times_1_179 rfl (lv_at hl 4 rfl) ?_
          refine lv_iload hx hb d_Mo_times_1_180 (lv_at hl 1 rfl) ?_
          refine lv_lload hx hb d_Mo_times_1_182 (lv_at hl 0 rfl) ?_
          refine lv_l2i (v := nI ((cy + (kw_d R0 k + 0)) % 4294967296)) hx hb d_Mo_times_1_184 (by rw [lN_i, nI_mod]) ?_
          refine kq_iast hx hb (hT) (hrr) (hk) (by decide) (Nat.mod_lt _ (by decide)) d_Mo_times_1_185 ?_
          refine lv_lload hx hb d_Mo_times_1_186 (lv_at hl 0 rfl) ?_
          refine lv_bipush (v := nI 32) hx hb d_Mo_times_1_188 (by decide) ?_
          refine lv_lushr (v := lN ((cy + (kw_d R0 k + 0)) / 4294967296)) hx hb d_Mo_times_1_190 (kq_ushr32 (by omega)) ?_
          refine lv_lstore hx hb d_Mo_times_1_191 hl (by decide) rfl (fun ls hl => ?_)
          have hl : lv_has ls 9 [(4, .long (lN ((cy + (kw_d R0 k + 0)) / 4294967296))), (8, .int (nI k)), (6, .long (lN ov)), (0, .ref mo), (1, .ref r)] := hl
          refine lv_iinc (k := 1) (v := nI (k + 1)) hx hb d_Mo_times_1_193 hl rfl (kq_inc k) (by decide) rfl (fun ls hl => ?_)
          have hl : lv_has ls 9 [(8, .int (nI (k + 1))), (4, .long (lN ((cy + (kw_d R0 k + 0)) / 4294967296))), (6, .long (lN ov)), (0, .ref mo), (1, .ref r)] := hl
          refine lv_goto hx hb d_Mo_times_1_196 rfl ?_
          have lx : (cy + (kw_d R0 k + 0)) % 4294967296 < 4294967296 := Nat.mod_lt _ (by decide)
          have hW1 := ks_put hE hW hr (kw_s_lt hlr hk lx)
          refine ih (k + 1) _ _ ((cy + (kw_d R0 k + 0)) / 4294967296) ls _ (by omega) hW1 (by omega) ?_ (fun j hjk => by rw [kq_up_at, kw_d_ws_ne _ lx (by omega)]; exact hj j (by omega)) (fun q hq => by rw [kq_up_ne hq]; exact ho q hq) (t_lc (free := fun q => q = r ∨ q = mo + 21) hlc (Or.inl rfl)) (lv_sub hl [0, 1, 2, 3, 4] rfl)
          rw [kq_up_at, hUs, kw_M_s, if_neg k0, if_neg k1]
          exact kx_step (by rw [← kw_M_s]; exact kw_s_lo _ _ _ lx) rfl (Nat.div_add_mod _ _).symm hI
        · have k1 : k = 1 := Classical.byContradiction fun q => q ((kx_n1 (by omega)).mp hk1)
          refine lv_lload hx hb d_Mo_times_1_169 (lv_at hl 2 rfl) ?_
          refine lv_goto hx hb d_Mo_times_1_171 rfl ?_
          refine lv_ladd hx hb d_Mo_times_1_175 ?_
          refine kq_rl (show (lN (kw_d R0 k)) + (lN ov) = lN (kw_d R0 k + ov) from lN_add _ _) ?_
          refine lv_ladd hx hb d_Mo_times_1_176 ?_
          refine kq_rl (show (lN cy) + (lN (kw_d R0 k + ov)) = lN (cy + (kw_d R0 k + ov)) from lN_add _ _) ?_
          refine lv_lstore hx hb d_Mo_times_1_177 hl (by decide) rfl (fun ls hl => ?_)
          have hl : lv_has ls 9 [(4, .long (lN (cy + (kw_d R0 k + ov)))), (8, .int (nI k)), (6, .long (lN ov)), (0, .ref mo), (1, .ref r)] := hl
          refine lv_aload_n hx hb d_Mo_times_1_179 rfl (lv_at hl 4 rfl) ?_
          refine lv_iload hx hb d_Mo_times_1_180 (lv_at hl 1 rfl) ?_
          refine lv_lload hx hb d_Mo_times_1_182 (lv_at hl 0 rfl) ?_
          refine lv_l2i (v := nI ((cy + (kw_d R0 k + ov)) % 4294967296)) hx hb d_Mo_times_1_184 (by rw [lN_i, nI_mod]) ?_
          refine kq_iast hx hb (hT) (hrr) (hk) (by decide) (Nat.mod_lt _ (by decide)) d_Mo_times_1_185 ?_
          refine lv_lload hx hb d_Mo_times_1_186 (lv_at hl 0 rfl) ?_
          refine lv_bipush (v := nI 32) hx hb d_Mo_times_1_188 (by decide) ?_
          refine lv_lushr (v := lN ((cy + (kw_d R0 k + ov)) / 4294967296)) hx hb d_Mo_times_1_190 (kq_ushr32 (by omega)) ?_
          refine lv_lstore hx hb d_Mo_times_1_191 hl (by decide) rfl (fun ls hl => ?_)
          have hl : lv_has ls 9 [(4, .long (lN ((cy + (kw_d R0 k + ov)) / 4294967296))), (8, .int (nI k)), (6, .long (lN ov)), (0, .ref mo), (1, .ref r)] := hl
          refine lv_iinc (k := 1) (v := nI (k + 1)) hx hb d_Mo_times_1_193 hl rfl (kq_inc k) (by decide) rfl (fun ls hl => ?_)
          have hl : lv_has ls 9 [(8, .int (nI (k + 1))), (4, .long (lN ((cy + (kw_d R0 k + ov)) / 4294967296))), (6, .long (lN ov)), (0, .ref mo), (1, .ref r)] := hl
          refine lv_goto hx hb d_Mo_times_1_196 rfl ?_
          have lx : (cy + (kw_d R0 k + ov)) % 4294967296 < 4294967296 := Nat.mod_lt _ (by decide)
          have hW1 := ks_put hE hW hr (kw_s_lt hlr hk lx)
          refine ih (k + 1) _ _ ((cy + (kw_d R0 k + ov)) / 4294967296) ls _ (by omega) hW1 (by omega) ?_ (fun j hjk => by rw [kq_up_at, kw_d_ws_ne _ lx (by omega)]; exact hj j (by omega)) (fun q hq => by rw [kq_up_ne hq]; exact ho q hq) (t_lc (free := fun q => q = r ∨ q = mo + 21) hlc (Or.inl rfl)) (lv_sub hl [0, 1, 2, 3, 4] rfl)
          rw [kq_up_at, hUs, kw_M_s, if_neg k0, if_pos k1]
          exact kx_step (by rw [← kw_M_s]; exact kw_s_lo _ _ _ lx) rfl (Nat.div_add_mod _ _).symm hI
      · have k0 : k = 0 := Classical.byContradiction fun q => q (kq_nI_inj (b := 0) (by omega) (by decide) (hk0.trans (by decide)))
        refine lv_lload hx hb d_Mo_times_1_154 (lv_at hl 2 rfl) ?_
        refine lv_ldc2 hx hb hown (v := lN 977) (hts _ (List.mem_cons_of_mem _ kt_w500)) d_Mo_times_1_156 ?_
        refine lv_lmul hx hb d_Mo_times_1_159 ?_
        refine kq_rl (show (lN ov) * (lN 977) = lN (ov * 977) from lN_mul _ _) ?_
        refine lv_goto hx hb d_Mo_times_1_160 rfl ?_
        refine lv_ladd hx hb d_Mo_times_1_175 ?_
        refine kq_rl (show (lN (kw_d R0 k)) + (lN (ov * 977)) = lN (kw_d R0 k + ov * 977) from lN_add _ _) ?_
        refine lv_ladd hx hb d_Mo_times_1_176 ?_
        refine kq_rl (show (lN cy) + (lN (kw_d R0 k + ov * 977)) = lN (cy + (kw_d R0 k + ov * 977)) from lN_add _ _) ?_
        refine lv_lstore hx hb d_Mo_times_1_177 hl (by decide) rfl (fun ls hl => ?_)
        have hl : lv_has ls 9 [(4, .long (lN (cy + (kw_d R0 k + ov * 977)))), (8, .int (nI k)), (6, .long (lN ov)), (0, .ref mo), (1, .ref r)] := hl
        refine lv_aload_n hx hb d_Mo_times_1_179 rfl (lv_at hl 4 rfl) ?_
        refine lv_iload hx hb d_Mo_times_1_180 (lv_at hl 1 rfl) ?_
        refine lv_lload hx hb d_Mo_times_1_182 (lv_at hl 0 rfl) ?_
        refine lv_l2i (v := nI ((cy + (kw_d R0 k + ov * 977)) % 4294967296)) hx hb d_Mo_times_1_184 (by rw [lN_i, nI_mod]) ?_
        refine kq_iast hx hb (hT) (hrr) (hk) (by decide) (Nat.mod_lt _ (by decide)) d_Mo_times_1_185 ?_
        refine lv_lload hx hb d_Mo_times_1_186 (lv_at hl 0 rfl) ?_
        refine lv_bipush (v := nI 32) hx hb d_Mo_times_1_188 (by decide) ?_
        refine lv_lushr (v := lN ((cy + (kw_d R0 k + ov * 977)) / 4294967296)) hx hb d_Mo_times_1_190 (kq_ushr32 (by omega)) ?_
        refine lv_lstore hx hb d_Mo_times_1_191 hl (by decide) rfl (fun ls hl => ?_)
        have hl : lv_has ls 9 [(4, .long (lN ((cy + (kw_d R0 k + ov * 977)) / 4294967296))), (8, .int (nI k)), (6, .long (lN ov)), (0, .ref mo), (1, .ref r)] := hl
        refine lv_iinc (k := 1) (v := nI (k + 1)) hx hb d_Mo_times_1_193 hl rfl (kq_inc k) (by decide) rfl (fun ls hl => ?_)
        have hl : lv_has ls 9 [(8, .int (nI (k + 1))), (4, .long (lN ((cy + (kw_d R0 k + ov * 977)) / 4294967296))), (6, .long (lN ov)), (0, .ref mo), (1, .ref r)] := hl
        refine lv_goto hx hb d_Mo_times_1_196 rfl ?_
        have lx : (cy + (kw_d R0 k + ov * 977)) % 4294967296 < 4294967296 := Nat.mod_lt _ (by decide)
        have hW1 := ks_put hE hW hr (kw_s_lt hlr hk lx)
        refine ih (k + 1) _ _ ((cy + (kw_d R0 k + ov * 977)) / 4294967296) ls _ (by omega) hW1 (by omega) ?_ (fun j hjk => by rw [kq_up_at, kw_d_ws_ne _ lx (by omega)]; exact hj j (by omega)) (fun q hq => by rw [kq_up_ne hq]; exact ho q hq) (t_lc (free := fun q => q = r ∨ q = mo + 21) hlc (Or.inl rfl)) (lv_sub hl [0, 1, 2, 3, 4] rfl)
        rw [kq_up_at, hUs, kw_M_s, if_pos k0]
        exact kx_step (by rw [← kw_M_s]; exact kw_s_lo _ _ _ lx) rfl (Nat.div_add_mod _ _).symm hI
set_option maxHeartbeats 4000000 in
set_option maxRecDepth 100000 in
theorem lc_Mo_times_1 (hx : p.tables.exec = Jvm.exec) (hb : c.code = b_Mo_times_1) (hts : ∀ w ∈ w_Mo_times_1, w.before args s = true) (hown : s.vm.findClass R_Mo = some m.cls) {E : ks_E} {mo : Nat} {far : Bool} (hE : ks_ok E) (hO : ks_O E mo far) (hB : ks_B E s) {r V : Nat} {v : Nat → Nat} (hr : ks_out E r)
    (kk : ∀ (w : Nat → Nat) (H : Heap) (ls : Array Slot) (locs : List Loc), ks_W E w H → w r % kP = V % kP → (∀ q, q ≠ r → w q = v q) → (∀ q ∈ locs, q.base = r ∨ q.base = mo + 21) → lv_has ls 9 [(0, .ref mo), (1, .ref r)] → W p l e R s m args below meth c H locs 0 0 Q (F0 m 206 ls [])) :
    ∀ (n : Nat) (w : Nat → Nat) (H : Heap) (ov : Nat) (ls : Array Slot) (locs : List Loc), ks_W E w H → ov < 17179869184 → (w r + ov * kw_M 8) % kP = V % kP → kp_folds kG_P n (w r + ov * kw_M 8) < kw_M 8 → (∀ q, q ≠ r → w q = v q) → (∀ q ∈ locs, q.base = r ∨ q.base = mo + 21) → lv_has ls 9 [(6, .long (lN ov)), (0, .ref mo), (1, .ref r)] → W p l e R s m args below meth c H locs 0 0 Q (F0 m 118 ls []) := by
  intro n
  induction n with
  | zero =>
    intro w H ov ls locs hW hov hV hF ho hlc hl
    have m0 : ov = 0 := by
      have h8 := kw_M_pos 8
      rw [kp_folds_z] at hF
      rcases Nat.eq_zero_or_pos ov with q | q
      · exact q
      · have := Nat.mul_le_mul_right (kw_M 8) q
        omega
    refine lv_lload hx hb d_Mo_times_1_118 (lv_at hl 0 rfl) ?_
    refine lv_lconst (v := lN 0) hx hb d_Mo_times_1_120 (by decide) ?_
    refine W.lcmp hx hb d_Mo_times_1_121 ?_
    refine lv_if_le hx hb d_Mo_times_1_122 rfl (fun hc => ?_) (fun hc => ?_)
    · rw [m0, Nat.zero_mul, Nat.add_zero] at hV
      exact kk w H ls locs hW hV ho hlc (lv_sub hl [1, 2] rfl)
    · exact absurd ((kq_cmp_le (by omega) (by decide)).mpr (by omega)) hc
  | succ n ih =>
    intro w H ov ls locs hW hov hV hF ho hlc hl
    refine lv_lload hx hb d_Mo_times_1_118 (lv_at hl 0 rfl) ?_
    refine lv_lconst (v := lN 0) hx hb d_Mo_times_1_120 (by decide) ?_
    refine W.lcmp hx hb d_Mo_times_1_121 ?_
    refine lv_if_le hx hb d_Mo_times_1_122 rfl (fun hc => ?_) (fun hc => ?_)
    · have m0 : ov = 0 := by
        have := (kq_cmp_le (by omega) (by decide)).mp hc
        omega
      rw [m0, Nat.zero_mul, Nat.add_zero] at hV
      exact kk w H ls locs hW hV ho hlc (lv_sub hl [1, 2] rfl)
    · have hlr := ks_lt hE hW (Or.inl hr)
      rw [kp_folds_s] at hF
      refine lv_lconst (v := lN 0) hx hb d_Mo_times_1_125 (by decide) ?_
      refine lv_lstore hx hb d_Mo_times_1_126 hl (by decide) rfl (fun ls hl => ?_)
      have hl : lv_has ls 9 [(4, .long (lN 0)), (6, .long (lN ov)), (0, .ref mo), (1, .ref r)] := hl
      refine lv_iconst (v := nI 0) hx hb d_Mo_times_1_128 (by decide) ?_
      refine lv_istore hx hb d_Mo_times_1_129 hl (by decide) rfl (fun ls hl => ?_)
      have hl : lv_has ls 9 [(8, .int (nI 0)), (4, .long (lN 0)), (6, .long (lN ov)), (0, .ref mo), (1, .ref r)] := hl
      refine lb_Mo_times_1 hx hb hts hown hE hO hB (v := v) (R0 := w r) (ov := ov) hr hov (fun w2 H2 cy ls L2 hW2 hcy hI2 ho2 hL2 hl => ?_) 8 0 w H 0 ls locs rfl hW (by decide) (by rw [kx_U_0, kw_M_0, Nat.mod_one]) (fun _ _ => rfl) ho hlc (lv_sub hl [0, 1, 2, 3, 4] rfl)
      have hl2 := ks_lt hE hW2 (Or.inl hr)
      rw [Nat.mod_eq_of_lt hl2, kx_U_end hlr] at hI2
      refine lv_lload hx hb d_Mo_times_1_199 (lv_at hl 0 rfl) ?_
      refine lv_lstore hx hb d_Mo_times_1_201 hl (by decide) rfl (fun ls hl => ?_)
      have hl : lv_has ls 9 [(6, .long (lN cy)), (4, .long (lN cy)), (0, .ref mo), (1, .ref r)] := hl
      refine lv_goto hx hb d_Mo_times_1_203 rfl ?_
      exact ih w2 H2 cy ls L2 hW2 (by omega) (by rw [hI2, kp_fold_eq kp_okP]; exact hV) (by rw [hI2]; exact hF) ho2 hL2 (lv_sub hl [0, 2, 3] rfl)
end
set_option maxHeartbeats 4000000 in
set_option maxRecDepth 100000 in
theorem c_Mo_times_1 (l : Launch) (E : ks_E) (A : Nat → Nat) (mo : Nat) (far : Bool) (v : Nat → Nat) (H : Heap) (hE : ks_ok E) (hA : ks_A E A) (hO : ks_O E mo far) (hW : ks_W E v H) (r a b : Nat) (hr : ks_out E r) (ha : ks_in E a) (hb0 : ks_in E b) : Met l y_Mo_times_1 w_Mo_times_1 ({ frames := 3, cells := 0, slots := 0, locals := 64 }) (kq_P [.ref mo, .ref r, .ref a, .ref b] H (ks_C E A)) (kq_Q (fun o H1 => o = none ∧ ∃ w : Nat → Nat, ks_W E w H1 ∧ w r = v a * v b % kP ∧ ∀ q, q ≠ r → q ≠ mo + 21 → w q = v q)) 0 0 (fun q => q = r ∨ q = mo + 21) := by
  refine Met.ofW (cc := b_Mo_times_1) (maxL := 9) (ret := none) (by decide) rfl ?_
  intro p e s m args below meth c s₁ B0 hml hv
  obtain ⟨rfl, hH, hC⟩ := hv
  have hx := B0.exec
  have hb := B0.bytes
  have hret := B0.returns
  have hts := atoms_spec (ws := w_Mo_times_1) B0.pre
  have hown : s.vm.findClass R_Mo = some m.cls := findClass_of_methodNamed B0.named
  have hlocks := B0.notSynchronized
  rw [hH]
  have hl := lv_entry ([.ref mo, .ref r, .ref a, .ref b]) (n := 9) (Nat.le_of_ble_eq_true rfl)
  rw [lg_entry_eq]
  generalize (lg_sl ([.ref mo, .ref r, .ref a, .ref b]) ++ List.replicate (9 - (lg_sl ([.ref mo, .ref r, .ref a, .ref b])).length) Slot.unset).toArray = ls at hl ⊢
  have hl : lv_has ls 9 [(0, .ref mo), (1, .ref r), (2, .ref a), (3, .ref b)] := hl
  have hB := hC.1
  have hK := hB.1
  have hT := ks_T hE hB
  have hOo := ks_obj hW hO.1 hO.2.1
  have hrne : r ≠ mo + 21 := ks_in_ne hE hO (Or.inl hr)
  have hla := ks_lt hE hW ha
  have hlb := ks_lt hE hW hb0
  refine lv_aload_n hx hb d_Mo_times_1_0 rfl (lv_at hl 0 rfl) ?_
  refine lv_aload_n hx hb d_Mo_times_1_1 rfl (lv_at hl 2 rfl) ?_
  refine lv_aload_n hx hb d_Mo_times_1_2 rfl (lv_at hl 3 rfl) ?_
  refine kq_call (va_runV (As := [.ref a, .ref b]) (rest := []) ⟨hx, hb, hml, hown, hts⟩ (c_Mo_multiply_1 l E A mo far v H hE hA hO hW a b ha hb0) (cwV 2 hts (kt_inV kt_w495 kt_w492 kt_w494 kt_s12 kt_w5) rfl rfl rfl (by decide +kernel) ⟨Nat.le_of_ble_eq_true rfl, Nat.le_of_ble_eq_true rfl⟩) (kq_preV (ks_st E) (hB) (kq_recv hK hOo rfl)) rfl rfl hl.1 rfl (lv_room (Nat.le_of_ble_eq_true rfl)) d_Mo_times_1_3 ⟨Nat.zero_le _, Nat.zero_le _⟩) (fun v9 H9 L1 hq9 hL1 => ?_)
  obtain ⟨rfl, hW1⟩ := hq9
  refine W.eq (g2 := F0 m 6 ls []) rfl ?_
  have hlc1 : ∀ q ∈ ([] : List Loc) ++ L1, q.base = r ∨ q.base = mo + 21 := t_lL (free := fun q => q = r ∨ q = mo + 21) (fun q h => by cases h) (fun q z => Or.inr (hL1 q z))
  have hV16 := (ks_wide hO hW1).2
  have hVe : va_up v (mo + 21) (v a * v b) (mo + 21) = v a * v b := kq_up_at
  rw [hVe] at hV16
  refine lv_lconst (v := lN 0) hx hb d_Mo_times_1_6 (by decide) ?_
  refine lv_lstore hx hb d_Mo_times_1_7 hl (by decide) rfl (fun ls hl => ?_)
  have hl : lv_has ls 9 [(4, .long (lN 0)), (0, .ref mo), (1, .ref r), (2, .ref a), (3, .ref b)] := hl
  refine lv_iconst (v := nI 0) hx hb d_Mo_times_1_9 (by decide) ?_
  refine lv_istore hx hb d_Mo_times_1_10 hl (by decide) rfl (fun ls hl => ?_)
  have hl : lv_has ls 9 [(6, .int (nI 0)), (4, .long (lN 0)), (0, .ref mo), (1, .ref r), (2, .ref a), (3, .ref b)] := hl
  refine la_Mo_times_1 hx hb hts hown hE hO hB (v := va_up v (mo + 21) (v a * v b)) hr (fun w2 H2 cy ls L2 hW2 hcy hI2 ho2 hL2 hl => ?_) 8 0 _ _ 0 ls _ rfl hW1 (by decide) (by rw [kx_T_0, kw_M_0, Nat.mod_one]) (fun _ _ => rfl) hlc1 (lv_sub hl [0, 1, 2, 3] rfl)
  have hOo2 := ks_obj hW2 hO.1 hO.2.1
  have hl2 := ks_lt hE hW2 (Or.inl hr)
  obtain ⟨hw1, hw2⟩ := ks_wide hO hW2
  rw [ho2 (mo + 21) hrne.symm, hVe] at hw1 hw2
  rw [hVe, Nat.mod_eq_of_lt hl2] at hI2
  have hsw : kq_r s .int H2 (mo + 21) 16 (fun j => .int (nI (kw_d (v a * v b) j))) := kq_r.ofV hT hw1
  have l15 := kw_d_lt (v a * v b) 15
  have hX : w2 r + (cy + kw_d (v a * v b) 15) * kw_M 8 = kp_fold kG_P (v a * v b) := by
    rw [← kx_T_end hV16, ← hI2, Nat.add_mul, Nat.add_assoc]
  refine lv_lload hx hb d_Mo_times_1_101 (lv_at hl 0 rfl) ?_
  refine lv_aload_n hx hb d_Mo_times_1_103 rfl (lv_at hl 1 rfl) ?_
  refine kq_get hx hb hts kt_F_Mo hown hK hOo2 rfl 8 (by decide) kt_w384 rfl d_Mo_times_1_104 ?_
  refine lv_bipush (v := nI 15) hx hb d_Mo_times_1_107 (by decide) ?_
  refine kq_iald hx hb (hsw) ((by decide)) (by decide) (rfl) d_Mo_times_1_109 ?_
  refine lv_i2l (v := (nI (kw_d (v a * v b) 15)).toInt64) hx hb d_Mo_times_1_110 (rfl) ?_
  refine lv_ldc2 hx hb hown (v := lN 4294967295) (hts _ (List.mem_cons_of_mem _ kt_w476)) d_Mo_times_1_111 ?_
  refine lv_land hx hb d_Mo_times_1_114 ?_
  refine kq_rl (show ((nI (kw_d (v a * v b) 15)).toInt64) &&& (lN 4294967295) = lN (kw_d (v a * v b) 15) from kx_maskN l15) ?_
  refine lv_ladd hx hb d_Mo_times_1_115 ?_
  refine kq_rl (show (lN cy) + (lN (kw_d (v a * v b) 15)) = lN (cy + kw_d (v a * v b) 15) from lN_add _ _) ?_
  refine lv_lstore hx hb d_Mo_times_1_116 hl (by decide) rfl (fun ls hl => ?_)
  have hl : lv_has ls 9 [(6, .long (lN (cy + kw_d (v a * v b) 15))), (4, .long (lN cy)), (0, .ref mo), (1, .ref r)] := hl
  refine lc_Mo_times_1 hx hb hts hown hE hO hB (v := va_up v (mo + 21) (v a * v b)) (V := v a * v b) hr (fun w3 H3 ls L3 hW3 hV3 ho3 hL3 hl => ?_) 3 w2 H2 (cy + kw_d (v a * v b) 15) ls L2 hW2 (by omega) (by rw [hX, kp_fold_eq kp_okP]) (by rw [hX, kp_folds_s, kp_folds_s, kp_folds_s, kp_folds_z]; exact kp_four kp_okP hV16) ho2 hL2 (lv_sub hl [0, 2, 3] rfl)
  have hs3 := ks_src hE hW3 hB (Or.inl hr)
  have hl3 := ks_lt hE hW3 (Or.inl hr)
  have hr3 := ks_row hW3 hr
  have hsp := ks_src hE hW3 hB (Or.inr hA.1.1)
  have hlp := ks_lt hE hW3 (Or.inr hA.1.1)
  rw [ks_cst hW3 hA.1] at hsp hlp
  have key := kp_trim kp_okP hl3
  rw [hV3] at key
  have hkeep : ∀ q, q ≠ r → q ≠ mo + 21 → w3 q = v q := fun q h1 h2 => by rw [ho3 q h1, kq_up_ne h2]
  refine lv_aload_n hx hb d_Mo_times_1_206 rfl (lv_at hl 1 rfl) ?_
  refine kq_gets hx hb hts (ks_zat hW3 hC.2.1) hown kt_w453 d_Mo_times_1_207 ?_
  refine kq_call (va_runS (As := [.ref r, .ref (A 0)]) (rest := []) ⟨hx, hb, hml, hown, hts⟩ (c_Mo_compare l _ r (A 0) (w3 r) kP hl3 hlp) (va_cwS 2 hts (kt_inS kt_w465 kt_w463 kt_w464 kt_w5) rfl rfl rfl (by decide +kernel) ⟨Nat.le_of_ble_eq_true rfl, Nat.le_of_ble_eq_true rfl⟩) (kq_preS (kq_st_r.both kq_st_r) (⟨hs3, hsp⟩)) rfl rfl hl.1 rfl (lv_room (Nat.le_of_ble_eq_true rfl)) d_Mo_times_1_210 ⟨Nat.zero_le _, Nat.zero_le _⟩) (fun v9 H9 L4 hq9 hL4 => ?_)
  obtain ⟨rfl, e9⟩ := hq9
  rw [e9]
  clear e9
  refine W.eq (g2 := F0 m 213 ls [.int (kx_cmp (w3 r) kP)]) rfl ?_
  have hlc4 := t_lL (free := fun q => q = r ∨ q = mo + 21) hL3 (fun q z => (hL4 q z).elim)
  refine lv_if_lt hx hb d_Mo_times_1_213 rfl (fun hcc => ?_) (fun hcc => ?_)
  · rw [if_pos (kx_cmp_lt.mp hcc)] at key
    refine W.vret hx hb hret (fun t ht _ => ⟨_, rfl, rfl, ?_⟩) hlc4 d_Mo_times_1_225
    rw [ht]
    exact ⟨w3, hW3, key, hkeep⟩
  · rw [if_neg (fun q => hcc (kx_cmp_lt.mpr q))] at key
    refine lv_aload_n hx hb d_Mo_times_1_216 rfl (lv_at hl 1 rfl) ?_
    refine lv_aload_n hx hb d_Mo_times_1_217 rfl (lv_at hl 1 rfl) ?_
    refine kq_gets hx hb hts (ks_zat hW3 hC.2.1) hown kt_w453 d_Mo_times_1_218 ?_
    refine kq_call (va_runS (As := [.ref r, .ref r, .ref (A 0)]) (rest := []) ⟨hx, hb, hml, hown, hts⟩ (c_Mo_sub l _ (ks_c E) r r (A 0) (w3 r) (w3 r) kP hl3 hl3 hlp hr3) (va_cwS 3 hts (kt_inS kt_w475 kt_w473 kt_w474 kt_w5) rfl rfl rfl (by decide +kernel) ⟨Nat.le_of_ble_eq_true rfl, Nat.le_of_ble_eq_true rfl⟩) (kq_preS (kq_st_A.both (kq_st_r.both kq_st_r)) (⟨hT, hs3, hsp⟩)) rfl rfl hl.1 rfl (lv_room (Nat.le_of_ble_eq_true rfl)) d_Mo_times_1_221 ⟨Nat.zero_le _, Nat.zero_le _⟩) (fun v9 H9 L5 hq9 hL5 => ?_)
    obtain ⟨rfl, rfl⟩ := hq9
    refine W.eq (g2 := F0 m 224 ls [.int (nI (18446744073709551616 - (if w3 r < kP then 1 else 0)))]) rfl ?_
    refine lv_pop hx hb d_Mo_times_1_224 rfl ?_
    refine W.vret hx hb hret (fun t ht _ => ⟨_, rfl, rfl, ?_⟩) (t_lL (free := fun q => q = r ∨ q = mo + 21) hlc4 (fun q z => Or.inl (hL5 q z))) d_Mo_times_1_225
    rw [ht]
    exact ⟨_, ks_put hE hW3 hr (kw_sub_lt _ _), by rw [kq_up_at]; exact key, fun q h1 h2 => by rw [kq_up_ne h1]; exact hkeep q h1 h2⟩
