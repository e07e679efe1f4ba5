/-! KeyCurveModel: inverse (own rows). -/
def kx_J (mm a0 u x : Nat) : Prop := 0 < u ∧ u ≤ mm ∧ x < mm ∧ a0 * x % mm = u % mm
theorem kx_gcd {u v u' v' : Nat} (h : Nat.gcd u v = 1) (h1 : u' ∣ u) (h2 : v' ∣ v) : Nat.gcd u' v' = 1 := by
  have q := Nat.dvd_gcd (Nat.dvd_trans (Nat.gcd_dvd_left u' v') h1) (Nat.dvd_trans (Nat.gcd_dvd_right u' v') h2)
  rw [h] at q
  exact Nat.dvd_one.mp q
theorem kx_cancel2 {mm p q : Nat} (ho : mm % 2 = 1) (h : 2 * p % mm = 2 * q % mm) : p % mm = q % mm := by
  have e : ∀ z : Nat, z % mm = (mm + 1) / 2 * (2 * z) % mm := by
    intro z
    have e1 : (mm + 1) / 2 * (2 * z) = z + mm * z := by
      rw [← Nat.mul_assoc, show (mm + 1) / 2 * 2 = mm + 1 by omega, Nat.add_mul, Nat.one_mul, Nat.add_comm]
    rw [e1, Nat.add_mul_mod_self_left]
  rw [e p, e q, Nat.mul_mod, h, ← Nat.mul_mod]
theorem kx_halve {mm a0 u x y : Nat} (ho : mm % 2 = 1) (hJ : kx_J mm a0 u x) (hu : u % 2 = 0) (hy : 2 * y = x ∨ 2 * y = x + mm) : kx_J mm a0 (u / 2) y := by
  obtain ⟨h1, h2, h3, h4⟩ := hJ
  refine ⟨by omega, by omega, by omega, kx_cancel2 ho ?_⟩
  rw [show 2 * (u / 2) = u by omega, ← h4, show 2 * (a0 * y) = a0 * (2 * y) from Nat.mul_left_comm _ _ _]
  rcases hy with e | e
  · rw [e]
  · rw [e, Nat.mul_add, Nat.add_mul_mod_self_right]
theorem kx_less {mm a0 u x t z y : Nat} (hm : 0 < mm) (hJ : kx_J mm a0 u x) (hK : kx_J mm a0 t z) (hut : t < u) (hy : y < mm) (he : y + z = x ∨ y + z = x + mm) : kx_J mm a0 (u - t) y := by
  obtain ⟨h1, h2, h3, h4⟩ := hJ
  obtain ⟨g1, g2, g3, g4⟩ := hK
  refine ⟨by omega, by omega, hy, ?_⟩
  have e1 : (a0 * y + a0 * z) % mm = u % mm := by
    rw [← Nat.mul_add, ← h4]
    rcases he with e | e
    · rw [e]
    · rw [e, Nat.mul_add, Nat.add_mul_mod_self_right]
  have e2 : (u - t + t) % mm = u % mm := by rw [Nat.sub_add_cancel (Nat.le_of_lt hut)]
  have q1 := kp_dif_of hm e1
  have q2 := kp_dif_of hm e2
  rw [q1, q2]
  unfold kp_dif
  rw [g4]
theorem kx_sub_le {A B : Nat} (h : B ≤ A) (hA : A < kw_M 8) : kw_sub A B = A - B := by
  unfold kw_sub
  rw [kw_M_8] at *
  omega
theorem kx_sub_gt {A B mm : Nat} (h : A < B) (hB : B < mm) (hm : mm < kw_M 8) : (kw_sub A B + mm) % kw_M 8 = A + mm - B := by
  unfold kw_sub
  rw [kw_M_8] at *
  omega
theorem kx_d02 (u : Nat) : kw_d u 0 % 2 = u % 2 := by
  rw [kw_d_0]
  omega
theorem kx_and1 (u : Nat) : nI (kw_d u 0) &&& nI 1 = nI (u % 2) := by
  have l := kw_d_lt u 0
  rw [pk_andN (n := kw_d u 0) (m := nI 1) (by omega) 1 rfl]
  exact congrArg nI (kx_d02 u)
theorem kx_one {mm a0 x : Nat} (hp : pm_prime mm) (ha : 0 < a0) (ha2 : a0 < mm) (hJ : kx_J mm a0 1 x) : x = kf_inv mm a0 := by
  obtain ⟨h1, h2, h3, h4⟩ := hJ
  have hm := hp.1
  rw [Nat.mod_eq_of_lt (show 1 < mm by omega)] at h4
  exact kf_uniq h3 (kf_inv_lt hp) h4 (kf_inv_mul hp (by rw [Nat.mod_eq_of_lt ha2]; omega))
theorem d_Mo_inverse_0 : decode b_Mo_inverse 0 = .ok (.aload_n 0, 1) := by decide +kernel
theorem d_Mo_inverse_1 : decode b_Mo_inverse 1 = .ok (.getfield 31, 3) := by decide +kernel
theorem d_Mo_inverse_4 : decode b_Mo_inverse 4 = .ok (.aload_n 2, 1) := by decide +kernel
theorem d_Mo_inverse_5 : decode b_Mo_inverse 5 = .ok (.invokestatic 104, 3) := by decide +kernel
theorem d_Mo_inverse_8 : decode b_Mo_inverse 8 = .ok (.aload_n 0, 1) := by decide +kernel
theorem d_Mo_inverse_9 : decode b_Mo_inverse 9 = .ok (.getfield 34, 3) := by decide +kernel
theorem d_Mo_inverse_12 : decode b_Mo_inverse 12 = .ok (.aload_n 3, 1) := by decide +kernel
theorem d_Mo_inverse_13 : decode b_Mo_inverse 13 = .ok (.invokestatic 104, 3) := by decide +kernel
theorem d_Mo_inverse_16 : decode b_Mo_inverse 16 = .ok (.iconst 0, 1) := by decide +kernel
theorem d_Mo_inverse_17 : decode b_Mo_inverse 17 = .ok (.istore 4, 2) := by decide +kernel
theorem d_Mo_inverse_19 : decode b_Mo_inverse 19 = .ok (.iload 4, 2) := by decide +kernel
theorem d_Mo_inverse_21 : decode b_Mo_inverse 21 = .ok (.bipush 8, 2) := by decide +kernel
theorem d_Mo_inverse_23 : decode b_Mo_inverse 23 = .ok (.if_icmp .ge 34, 3) := by decide +kernel
theorem d_Mo_inverse_26 : decode b_Mo_inverse 26 = .ok (.aload_n 0, 1) := by decide +kernel
theorem d_Mo_inverse_27 : decode b_Mo_inverse 27 = .ok (.getfield 64, 3) := by decide +kernel
theorem d_Mo_inverse_30 : decode b_Mo_inverse 30 = .ok (.iload 4, 2) := by decide +kernel
theorem d_Mo_inverse_32 : decode b_Mo_inverse 32 = .ok (.iload 4, 2) := by decide +kernel
theorem d_Mo_inverse_34 : decode b_Mo_inverse 34 = .ok (.ifCond .ne 7, 3) := by decide +kernel
theorem d_Mo_inverse_37 : decode b_Mo_inverse 37 = .ok (.iconst 1, 1) := by decide +kernel
theorem d_Mo_inverse_38 : decode b_Mo_inverse 38 = .ok (.goto 4, 3) := by decide +kernel
theorem d_Mo_inverse_41 : decode b_Mo_inverse 41 = .ok (.iconst 0, 1) := by decide +kernel
theorem d_Mo_inverse_42 : decode b_Mo_inverse 42 = .ok (.iastore, 1) := by decide +kernel
theorem d_Mo_inverse_43 : decode b_Mo_inverse 43 = .ok (.aload_n 0, 1) := by decide +kernel
theorem d_Mo_inverse_44 : decode b_Mo_inverse 44 = .ok (.getfield 67, 3) := by decide +kernel
theorem d_Mo_inverse_47 : decode b_Mo_inverse 47 = .ok (.iload 4, 2) := by decide +kernel
theorem d_Mo_inverse_49 : decode b_Mo_inverse 49 = .ok (.iconst 0, 1) := by decide +kernel
theorem d_Mo_inverse_50 : decode b_Mo_inverse 50 = .ok (.iastore, 1) := by decide +kernel
theorem d_Mo_inverse_51 : decode b_Mo_inverse 51 = .ok (.iinc 4 1, 3) := by decide +kernel
theorem d_Mo_inverse_54 : decode b_Mo_inverse 54 = .ok (.goto (-35), 3) := by decide +kernel
theorem d_Mo_inverse_57 : decode b_Mo_inverse 57 = .ok (.aload_n 0, 1) := by decide +kernel
theorem d_Mo_inverse_58 : decode b_Mo_inverse 58 = .ok (.getfield 31, 3) := by decide +kernel
theorem d_Mo_inverse_61 : decode b_Mo_inverse 61 = .ok (.invokestatic 107, 3) := by decide +kernel
theorem d_Mo_inverse_64 : decode b_Mo_inverse 64 = .ok (.ifCond .ne 247, 3) := by decide +kernel
theorem d_Mo_inverse_67 : decode b_Mo_inverse 67 = .ok (.aload_n 0, 1) := by decide +kernel
theorem d_Mo_inverse_68 : decode b_Mo_inverse 68 = .ok (.getfield 34, 3) := by decide +kernel
theorem d_Mo_inverse_71 : decode b_Mo_inverse 71 = .ok (.invokestatic 107, 3) := by decide +kernel
theorem d_Mo_inverse_74 : decode b_Mo_inverse 74 = .ok (.ifCond .ne 237, 3) := by decide +kernel
theorem d_Mo_inverse_77 : decode b_Mo_inverse 77 = .ok (.aload_n 0, 1) := by decide +kernel
theorem d_Mo_inverse_78 : decode b_Mo_inverse 78 = .ok (.getfield 31, 3) := by decide +kernel
theorem d_Mo_inverse_81 : decode b_Mo_inverse 81 = .ok (.iconst 0, 1) := by decide +kernel
theorem d_Mo_inverse_82 : decode b_Mo_inverse 82 = .ok (.iaload, 1) := by decide +kernel
theorem d_Mo_inverse_83 : decode b_Mo_inverse 83 = .ok (.iconst 1, 1) := by decide +kernel
theorem d_Mo_inverse_84 : decode b_Mo_inverse 84 = .ok (.iand, 1) := by decide +kernel
theorem d_Mo_inverse_85 : decode b_Mo_inverse 85 = .ok (.ifCond .ne 52, 3) := by decide +kernel
theorem d_Mo_inverse_88 : decode b_Mo_inverse 88 = .ok (.aload_n 0, 1) := by decide +kernel
theorem d_Mo_inverse_89 : decode b_Mo_inverse 89 = .ok (.getfield 31, 3) := by decide +kernel
theorem d_Mo_inverse_92 : decode b_Mo_inverse 92 = .ok (.iconst 0, 1) := by decide +kernel
theorem d_Mo_inverse_93 : decode b_Mo_inverse 93 = .ok (.invokestatic 111, 3) := by decide +kernel
theorem d_Mo_inverse_96 : decode b_Mo_inverse 96 = .ok (.aload_n 0, 1) := by decide +kernel
theorem d_Mo_inverse_97 : decode b_Mo_inverse 97 = .ok (.getfield 64, 3) := by decide +kernel
theorem d_Mo_inverse_100 : decode b_Mo_inverse 100 = .ok (.iconst 0, 1) := by decide +kernel
theorem d_Mo_inverse_101 : decode b_Mo_inverse 101 = .ok (.iaload, 1) := by decide +kernel
theorem d_Mo_inverse_102 : decode b_Mo_inverse 102 = .ok (.iconst 1, 1) := by decide +kernel
theorem d_Mo_inverse_103 : decode b_Mo_inverse 103 = .ok (.iand, 1) := by decide +kernel
theorem d_Mo_inverse_104 : decode b_Mo_inverse 104 = .ok (.ifCond .ne 7, 3) := by decide +kernel
theorem d_Mo_inverse_107 : decode b_Mo_inverse 107 = .ok (.iconst 0, 1) := by decide +kernel
theorem d_Mo_inverse_108 : decode b_Mo_inverse 108 = .ok (.goto 15, 3) := by decide +kernel
theorem d_Mo_inverse_111 : decode b_Mo_inverse 111 = .ok (.aload_n 0, 1) := by decide +kernel
theorem d_Mo_inverse_112 : decode b_Mo_inverse 112 = .ok (.getfield 64, 3) := by decide +kernel
theorem d_Mo_inverse_115 : decode b_Mo_inverse 115 = .ok (.aload_n 0, 1) := by decide +kernel
theorem d_Mo_inverse_116 : decode b_Mo_inverse 116 = .ok (.getfield 64, 3) := by decide +kernel
theorem d_Mo_inverse_119 : decode b_Mo_inverse 119 = .ok (.aload_n 3, 1) := by decide +kernel
theorem d_Mo_inverse_120 : decode b_Mo_inverse 120 = .ok (.invokestatic 101, 3) := by decide +kernel
theorem d_Mo_inverse_123 : decode b_Mo_inverse 123 = .ok (.istore 4, 2) := by decide +kernel
theorem d_Mo_inverse_125 : decode b_Mo_inverse 125 = .ok (.aload_n 0, 1) := by decide +kernel
theorem d_Mo_inverse_126 : decode b_Mo_inverse 126 = .ok (.getfield 64, 3) := by decide +kernel
theorem d_Mo_inverse_129 : decode b_Mo_inverse 129 = .ok (.iload 4, 2) := by decide +kernel
theorem d_Mo_inverse_131 : decode b_Mo_inverse 131 = .ok (.invokestatic 111, 3) := by decide +kernel
theorem d_Mo_inverse_134 : decode b_Mo_inverse 134 = .ok (.goto (-57), 3) := by decide +kernel
theorem d_Mo_inverse_137 : decode b_Mo_inverse 137 = .ok (.aload_n 0, 1) := by decide +kernel
theorem d_Mo_inverse_138 : decode b_Mo_inverse 138 = .ok (.getfield 34, 3) := by decide +kernel
theorem d_Mo_inverse_141 : decode b_Mo_inverse 141 = .ok (.iconst 0, 1) := by decide +kernel
theorem d_Mo_inverse_142 : decode b_Mo_inverse 142 = .ok (.iaload, 1) := by decide +kernel
theorem d_Mo_inverse_143 : decode b_Mo_inverse 143 = .ok (.iconst 1, 1) := by decide +kernel
theorem d_Mo_inverse_144 : decode b_Mo_inverse 144 = .ok (.iand, 1) := by decide +kernel
theorem d_Mo_inverse_145 : decode b_Mo_inverse 145 = .ok (.ifCond .ne 52, 3) := by decide +kernel
theorem d_Mo_inverse_148 : decode b_Mo_inverse 148 = .ok (.aload_n 0, 1) := by decide +kernel
theorem d_Mo_inverse_149 : decode b_Mo_inverse 149 = .ok (.getfield 34, 3) := by decide +kernel
theorem d_Mo_inverse_152 : decode b_Mo_inverse 152 = .ok (.iconst 0, 1) := by decide +kernel
theorem d_Mo_inverse_153 : decode b_Mo_inverse 153 = .ok (.invokestatic 111, 3) := by decide +kernel
theorem d_Mo_inverse_156 : decode b_Mo_inverse 156 = .ok (.aload_n 0, 1) := by decide +kernel
theorem d_Mo_inverse_157 : decode b_Mo_inverse 157 = .ok (.getfield 67, 3) := by decide +kernel
theorem d_Mo_inverse_160 : decode b_Mo_inverse 160 = .ok (.iconst 0, 1) := by decide +kernel
theorem d_Mo_inverse_161 : decode b_Mo_inverse 161 = .ok (.iaload, 1) := by decide +kernel
theorem d_Mo_inverse_162 : decode b_Mo_inverse 162 = .ok (.iconst 1, 1) := by decide +kernel
theorem d_Mo_inverse_163 : decode b_Mo_inverse 163 = .ok (.iand, 1) := by decide +kernel
theorem d_Mo_inverse_164 : decode b_Mo_inverse 164 = .ok (.ifCond .ne 7, 3) := by decide +kernel
theorem d_Mo_inverse_167 : decode b_Mo_inverse 167 = .ok (.iconst 0, 1) := by decide +kernel
theorem d_Mo_inverse_168 : decode b_Mo_inverse 168 = .ok (.goto 15, 3) := by decide +kernel
theorem d_Mo_inverse_171 : decode b_Mo_inverse 171 = .ok (.aload_n 0, 1) := by decide +kernel
theorem d_Mo_inverse_172 : decode b_Mo_inverse 172 = .ok (.getfield 67, 3) := by decide +kernel
theorem d_Mo_inverse_175 : decode b_Mo_inverse 175 = .ok (.aload_n 0, 1) := by decide +kernel
theorem d_Mo_inverse_176 : decode b_Mo_inverse 176 = .ok (.getfield 67, 3) := by decide +kernel
theorem d_Mo_inverse_179 : decode b_Mo_inverse 179 = .ok (.aload_n 3, 1) := by decide +kernel
theorem d_Mo_inverse_180 : decode b_Mo_inverse 180 = .ok (.invokestatic 101, 3) := by decide +kernel
theorem d_Mo_inverse_183 : decode b_Mo_inverse 183 = .ok (.istore 4, 2) := by decide +kernel
theorem d_Mo_inverse_185 : decode b_Mo_inverse 185 = .ok (.aload_n 0, 1) := by decide +kernel
theorem d_Mo_inverse_186 : decode b_Mo_inverse 186 = .ok (.getfield 67, 3) := by decide +kernel
theorem d_Mo_inverse_189 : decode b_Mo_inverse 189 = .ok (.iload 4, 2) := by decide +kernel
theorem d_Mo_inverse_191 : decode b_Mo_inverse 191 = .ok (.invokestatic 111, 3) := by decide +kernel
theorem d_Mo_inverse_194 : decode b_Mo_inverse 194 = .ok (.goto (-57), 3) := by decide +kernel
theorem d_Mo_inverse_197 : decode b_Mo_inverse 197 = .ok (.aload_n 0, 1) := by decide +kernel
theorem d_Mo_inverse_198 : decode b_Mo_inverse 198 = .ok (.getfield 31, 3) := by decide +kernel
theorem d_Mo_inverse_201 : decode b_Mo_inverse 201 = .ok (.aload_n 0, 1) := by decide +kernel
theorem d_Mo_inverse_202 : decode b_Mo_inverse 202 = .ok (.getfield 34, 3) := by decide +kernel
theorem d_Mo_inverse_205 : decode b_Mo_inverse 205 = .ok (.invokestatic 93, 3) := by decide +kernel
theorem d_Mo_inverse_208 : decode b_Mo_inverse 208 = .ok (.ifCond .lt 53, 3) := by decide +kernel
theorem d_Mo_inverse_211 : decode b_Mo_inverse 211 = .ok (.aload_n 0, 1) := by decide +kernel
theorem d_Mo_inverse_212 : decode b_Mo_inverse 212 = .ok (.getfield 31, 3) := by decide +kernel
theorem d_Mo_inverse_215 : decode b_Mo_inverse 215 = .ok (.aload_n 0, 1) := by decide +kernel
theorem d_Mo_inverse_216 : decode b_Mo_inverse 216 = .ok (.getfield 31, 3) := by decide +kernel
theorem d_Mo_inverse_219 : decode b_Mo_inverse 219 = .ok (.aload_n 0, 1) := by decide +kernel
theorem d_Mo_inverse_220 : decode b_Mo_inverse 220 = .ok (.getfield 34, 3) := by decide +kernel
theorem d_Mo_inverse_223 : decode b_Mo_inverse 223 = .ok (.invokestatic 97, 3) := by decide +kernel
theorem d_Mo_inverse_226 : decode b_Mo_inverse 226 = .ok (.pop, 1) := by decide +kernel
theorem d_Mo_inverse_227 : decode b_Mo_inverse 227 = .ok (.aload_n 0, 1) := by decide +kernel
theorem d_Mo_inverse_228 : decode b_Mo_inverse 228 = .ok (.getfield 64, 3) := by decide +kernel
theorem d_Mo_inverse_231 : decode b_Mo_inverse 231 = .ok (.aload_n 0, 1) := by decide +kernel
theorem d_Mo_inverse_232 : decode b_Mo_inverse 232 = .ok (.getfield 64, 3) := by decide +kernel
theorem d_Mo_inverse_235 : decode b_Mo_inverse 235 = .ok (.aload_n 0, 1) := by decide +kernel
theorem d_Mo_inverse_236 : decode b_Mo_inverse 236 = .ok (.getfield 67, 3) := by decide +kernel
theorem d_Mo_inverse_239 : decode b_Mo_inverse 239 = .ok (.invokestatic 97, 3) := by decide +kernel
theorem d_Mo_inverse_242 : decode b_Mo_inverse 242 = .ok (.ifCond .eq (-185), 3) := by decide +kernel
theorem d_Mo_inverse_245 : decode b_Mo_inverse 245 = .ok (.aload_n 0, 1) := by decide +kernel
theorem d_Mo_inverse_246 : decode b_Mo_inverse 246 = .ok (.getfield 64, 3) := by decide +kernel
theorem d_Mo_inverse_249 : decode b_Mo_inverse 249 = .ok (.aload_n 0, 1) := by decide +kernel
theorem d_Mo_inverse_250 : decode b_Mo_inverse 250 = .ok (.getfield 64, 3) := by decide +kernel
theorem d_Mo_inverse_253 : decode b_Mo_inverse 253 = .ok (.aload_n 3, 1) := by decide +kernel
theorem d_Mo_inverse_254 : decode b_Mo_inverse 254 = .ok (.invokestatic 101, 3) := by decide +kernel
theorem d_Mo_inverse_257 : decode b_Mo_inverse 257 = .ok (.pop, 1) := by decide +kernel
theorem d_Mo_inverse_258 : decode b_Mo_inverse 258 = .ok (.goto (-201), 3) := by decide +kernel
theorem d_Mo_inverse_261 : decode b_Mo_inverse 261 = .ok (.aload_n 0, 1) := by decide +kernel
theorem d_Mo_inverse_262 : decode b_Mo_inverse 262 = .ok (.getfield 34, 3) := by decide +kernel
theorem d_Mo_inverse_265 : decode b_Mo_inverse 265 = .ok (.aload_n 0, 1) := by decide +kernel
theorem d_Mo_inverse_266 : decode b_Mo_inverse 266 = .ok (.getfield 34, 3) := by decide +kernel
theorem d_Mo_inverse_269 : decode b_Mo_inverse 269 = .ok (.aload_n 0, 1) := by decide +kernel
theorem d_Mo_inverse_270 : decode b_Mo_inverse 270 = .ok (.getfield 31, 3) := by decide +kernel
theorem d_Mo_inverse_273 : decode b_Mo_inverse 273 = .ok (.invokestatic 97, 3) := by decide +kernel
theorem d_Mo_inverse_276 : decode b_Mo_inverse 276 = .ok (.pop, 1) := by decide +kernel
theorem d_Mo_inverse_277 : decode b_Mo_inverse 277 = .ok (.aload_n 0, 1) := by decide +kernel
theorem d_Mo_inverse_278 : decode b_Mo_inverse 278 = .ok (.getfield 67, 3) := by decide +kernel
theorem d_Mo_inverse_281 : decode b_Mo_inverse 281 = .ok (.aload_n 0, 1) := by decide +kernel
theorem d_Mo_inverse_282 : decode b_Mo_inverse 282 = .ok (.getfield 67, 3) := by decide +kernel
theorem d_Mo_inverse_285 : decode b_Mo_inverse 285 = .ok (.aload_n 0, 1) := by decide +kernel
theorem d_Mo_inverse_286 : decode b_Mo_inverse 286 = .ok (.getfield 64, 3) := by decide +kernel
theorem d_Mo_inverse_289 : decode b_Mo_inverse 289 = .ok (.invokestatic 97, 3) := by decide +kernel
theorem d_Mo_inverse_292 : decode b_Mo_inverse 292 = .ok (.ifCond .eq (-235), 3) := by decide +kernel
theorem d_Mo_inverse_295 : decode b_Mo_inverse 295 = .ok (.aload_n 0, 1) := by decide +kernel
theorem d_Mo_inverse_296 : decode b_Mo_inverse 296 = .ok (.getfield 67, 3) := by decide +kernel
theorem d_Mo_inverse_299 : decode b_Mo_inverse 299 = .ok (.aload_n 0, 1) := by decide +kernel
theorem d_Mo_inverse_300 : decode b_Mo_inverse 300 = .ok (.getfield 67, 3) := by decide +kernel
theorem d_Mo_inverse_303 : decode b_Mo_inverse 303 = .ok (.aload_n 3, 1) := by decide +kernel
theorem d_Mo_inverse_304 : decode b_Mo_inverse 304 = .ok (.invokestatic 101, 3) := by decide +kernel
theorem d_Mo_inverse_307 : decode b_Mo_inverse 307 = .ok (.pop, 1) := by decide +kernel
theorem d_Mo_inverse_308 : decode b_Mo_inverse 308 = .ok (.goto (-251), 3) := by decide +kernel
theorem d_Mo_inverse_311 : decode b_Mo_inverse 311 = .ok (.aload_n 1, 1) := by decide +kernel
theorem d_Mo_inverse_312 : decode b_Mo_inverse 312 = .ok (.aload_n 0, 1) := by decide +kernel
theorem d_Mo_inverse_313 : decode b_Mo_inverse 313 = .ok (.getfield 31, 3) := by decide +kernel
theorem d_Mo_inverse_316 : decode b_Mo_inverse 316 = .ok (.invokestatic 107, 3) := by decide +kernel
theorem d_Mo_inverse_319 : decode b_Mo_inverse 319 = .ok (.ifCond .eq 10, 3) := by decide +kernel
theorem d_Mo_inverse_322 : decode b_Mo_inverse 322 = .ok (.aload_n 0, 1) := by decide +kernel
theorem d_Mo_inverse_323 : decode b_Mo_inverse 323 = .ok (.getfield 64, 3) := by decide +kernel
theorem d_Mo_inverse_326 : decode b_Mo_inverse 326 = .ok (.goto 7, 3) := by decide +kernel
theorem d_Mo_inverse_329 : decode b_Mo_inverse 329 = .ok (.aload_n 0, 1) := by decide +kernel
theorem d_Mo_inverse_330 : decode b_Mo_inverse 330 = .ok (.getfield 67, 3) := by decide +kernel
theorem d_Mo_inverse_333 : decode b_Mo_inverse 333 = .ok (.invokestatic 104, 3) := by decide +kernel
theorem d_Mo_inverse_336 : decode b_Mo_inverse 336 = .ok (.return_, 1) := by decide +kernel
section
variable {p : Program} {l : Launch} {e : Env} {R : Room} {s : State} {m : MethodId} {args : Array Value} {below : List Frame} {meth : Method} {c : Code} {cells slots : Nat} {Q : State → Prop}
set_option maxHeartbeats 4000000 in
set_option maxRecDepth 100000 in
theorem la_Mo_inverse (hx : p.tables.exec = Jvm.exec) (hb : c.code = b_Mo_inverse) (hts : ∀ w ∈ w_Mo_inverse, w.before args s = true) (hown : s.vm.findClass R_Mo = some m.cls) {E : ks_E} {mo : Nat} {far : Bool} (hE : ks_ok E) (hO : ks_O E mo far) (hB : ks_B E s) {r mr : Nat} {v : Nat → Nat}
    (kk : ∀ (w : Nat → Nat) (H : Heap) (ls : Array Slot) (locs : List Loc), ks_W E w H → w (mo + 30) = 1 → w (mo + 31) = 0 → (∀ q, q ≠ mo + 30 → q ≠ mo + 31 → w q = v q) → (∀ q ∈ locs, q.base = r ∨ q.base = mo + 19 ∨ q.base = mo + 20 ∨ q.base = mo + 30 ∨ q.base = mo + 31) → lv_has ls 5 [(0, .ref mo), (1, .ref r), (3, .ref mr)] → W p l e R s m args below meth c H locs 0 0 Q (F0 m 57 ls [])) :
    ∀ (n i : Nat) (w : Nat → Nat) (H : Heap) (ls : Array Slot) (locs : List Loc), i + n = 8 → ks_W E w H → w (mo + 30) % kw_M i = (if i = 0 then 0 else 1) → w (mo + 31) % kw_M i = 0 → (∀ q, q ≠ mo + 30 → q ≠ mo + 31 → w q = v q) → (∀ q ∈ locs, q.base = r ∨ q.base = mo + 19 ∨ q.base = mo + 20 ∨ q.base = mo + 30 ∨ q.base = mo + 31) → lv_has ls 5 [(4, .int (nI i)), (0, .ref mo), (1, .ref r), (3, .ref mr)] → W p l e R s m args below meth c H locs 0 0 Q (F0 m 19 ls []) := by
  intro n
  induction n with
  | zero =>
    intro i w H ls locs hn hW h1 h2 ho hlc hl
    obtain rfl : i = 8 := by omega
    refine lv_iload hx hb d_Mo_inverse_19 (lv_at hl 0 rfl) ?_
    refine lv_bipush (v := nI 8) hx hb d_Mo_inverse_21 (by decide) ?_
    refine lv_icmp_ge hx hb d_Mo_inverse_23 rfl (fun hc => ?_) (fun hc => ?_)
    · rw [Nat.mod_eq_of_lt (ks_lt hE hW (Or.inl (hO.2.2.1 30 (by decide) (by decide) (by decide)))), if_neg (by decide)] at h1
      rw [Nat.mod_eq_of_lt (ks_lt hE hW (Or.inl (hO.2.2.1 31 (by decide) (by decide) (by decide))))] at h2
      exact kk w H ls locs hW h1 h2 ho hlc (lv_sub hl [1, 2, 3] rfl)
    · exact absurd (nI_le (Nat.le_refl 8) (by decide)) hc
  | succ n ih =>
    intro i w H ls locs hn hW h1 h2 ho hlc hl
    have hi : i < 8 := by omega
    have hK := hB.1
    have hT := ks_T hE hB
    have h30 := hO.2.2.1 30 (by decide) (by decide) (by decide)
    have h31 := hO.2.2.1 31 (by decide) (by decide) (by decide)
    have hOo := ks_obj hW hO.1 hO.2.1
    have hrow := ks_row hW h30
    refine lv_iload hx hb d_Mo_inverse_19 (lv_at hl 0 rfl) ?_
    refine lv_bipush (v := nI 8) hx hb d_Mo_inverse_21 (by decide) ?_
    refine lv_icmp_ge hx hb d_Mo_inverse_23 rfl (fun hc => ?_) (fun hc => ?_)
    · exact absurd hc (nI_ge hi (by decide))
    · refine lv_aload_n hx hb d_Mo_inverse_26 rfl (lv_at hl 1 rfl) ?_
      refine kq_get hx hb hts kt_F_Mo hown hK hOo rfl 18 (by decide) kt_w394 rfl d_Mo_inverse_27 ?_
      refine lv_iload hx hb d_Mo_inverse_30 (lv_at hl 0 rfl) ?_
      refine lv_iload hx hb d_Mo_inverse_32 (lv_at hl 0 rfl) ?_
      refine lv_if_ne hx hb d_Mo_inverse_34 rfl (fun hk0 => ?_) (fun hk0 => ?_)
      · have k0 : ¬ i = 0 := fun q => hk0 (by rw [q]; decide)
        refine lv_iconst (v := nI 0) hx hb d_Mo_inverse_41 (by decide) ?_
        refine kq_iast hx hb (hT) (hrow) (hi) (by decide) ((by decide)) d_Mo_inverse_42 ?_
        have hW1 := ks_put hE hW h30 (kw_s_lt (ks_lt hE hW (Or.inl h30)) hi (show 0 < 4294967296 by decide))
        have hOo1 := ks_obj hW1 hO.1 hO.2.1
        have hrow1 := ks_row hW1 h31
        rw [kq_up_ne (by omega)] at hrow1
        have hW2 := ks_put hE hW1 h31 (kw_s_lt (ks_lt hE hW (Or.inl h31)) hi (show 0 < 4294967296 by decide))
        refine lv_aload_n hx hb d_Mo_inverse_43 rfl (lv_at hl 1 rfl) ?_
        refine kq_get hx hb hts kt_F_Mo hown hK hOo1 rfl 19 (by decide) kt_w395 rfl d_Mo_inverse_44 ?_
        refine lv_iload hx hb d_Mo_inverse_47 (lv_at hl 0 rfl) ?_
        refine lv_iconst (v := nI 0) hx hb d_Mo_inverse_49 (by decide) ?_
        refine kq_iast hx hb (hT) (hrow1) (hi) (by decide) ((by decide)) d_Mo_inverse_50 ?_
        refine lv_iinc (k := 0) (v := nI (i + 1)) hx hb d_Mo_inverse_51 hl rfl (kq_inc i) (by decide) rfl (fun ls hl => ?_)
        have hl : lv_has ls 5 [(4, .int (nI (i + 1))), (0, .ref mo), (1, .ref r), (3, .ref mr)] := hl
        refine lv_goto hx hb d_Mo_inverse_54 rfl ?_
        refine ih (i + 1) _ _ ls _ (by omega) hW2 ?_ ?_ (fun q q1 q2 => by rw [kq_up_ne q2, kq_up_ne q1]; exact ho q q1 q2) (t_lc (free := (fun q => q = r ∨ q = mo + 19 ∨ q = mo + 20 ∨ q = mo + 30 ∨ q = mo + 31)) (t_lc (free := (fun q => q = r ∨ q = mo + 19 ∨ q = mo + 20 ∨ q = mo + 30 ∨ q = mo + 31)) hlc (Or.inr (Or.inr (Or.inr (Or.inl rfl))))) (Or.inr (Or.inr (Or.inr (Or.inr rfl))))) (lv_sub hl [0, 1, 2, 3] rfl)
        · rw [kq_up_ne (by omega), kq_up_at, kw_s_lo _ _ _ (by decide), h1, if_neg (Nat.succ_ne_zero i), if_neg k0, Nat.mul_zero]
        · rw [kq_up_at, kw_s_lo _ _ _ (by decide), h2]
          rfl
      · have k0 : i = 0 := (kx_n0 (by omega)).mp hk0
        refine lv_iconst (v := nI 1) hx hb d_Mo_inverse_37 (by decide) ?_
        refine lv_goto hx hb d_Mo_inverse_38 rfl ?_
        refine kq_iast hx hb (hT) (hrow) (hi) (by decide) ((by decide)) d_Mo_inverse_42 ?_
        have hW1 := ks_put hE hW h30 (kw_s_lt (ks_lt hE hW (Or.inl h30)) hi (show 1 < 4294967296 by decide))
        have hOo1 := ks_obj hW1 hO.1 hO.2.1
        have hrow1 := ks_row hW1 h31
        rw [kq_up_ne (by omega)] at hrow1
        have hW2 := ks_put hE hW1 h31 (kw_s_lt (ks_lt hE hW (Or.inl h31)) hi (show 0 < 4294967296 by decide))
        refine lv_aload_n hx hb d_Mo_inverse_43 rfl (lv_at hl 1 rfl) ?_
        refine kq_get hx hb hts kt_F_Mo hown hK hOo1 rfl 19 (by decide) kt_w395 rfl d_Mo_inverse_44 ?_
        refine lv_iload hx hb d_Mo_inverse_47 (lv_at hl 0 rfl) ?_
        refine lv_iconst (v := nI 0) hx hb d_Mo_inverse_49 (by decide) ?_
        refine kq_iast hx hb (hT) (hrow1) (hi) (by decide) ((by decide)) d_Mo_inverse_50 ?_
        refine lv_iinc (k := 0) (v := nI (i + 1)) hx hb d_Mo_inverse_51 hl rfl (kq_inc i) (by decide) rfl (fun ls hl => ?_)
        have hl : lv_has ls 5 [(4, .int (nI (i + 1))), (0, .ref mo), (1, .ref r), (3, .ref mr)] := hl
        refine lv_goto hx hb d_Mo_inverse_54 rfl ?_
        refine ih (i + 1) _ _ ls _ (by omega) hW2 ?_ ?_ (fun q q1 q2 => by rw [kq_up_ne q2, kq_up_ne q1]; exact ho q q1 q2) (t_lc (free := (fun q => q = r ∨ q = mo + 19 ∨ q = mo + 20 ∨ q = mo + 30 ∨ q = mo + 31)) (t_lc (free := (fun q => q = r ∨ q = mo + 19 ∨ q = mo + 20 ∨ q = mo + 30 ∨ q = mo + 31)) hlc (Or.inr (Or.inr (Or.inr (Or.inl rfl))))) (Or.inr (Or.inr (Or.inr (Or.inr rfl))))) (lv_sub hl [0, 1, 2, 3] rfl)
        · rw [kq_up_ne (by omega), kq_up_at, kw_s_lo _ _ _ (by decide), h1, if_neg (Nat.succ_ne_zero i), if_pos k0, k0, kw_M_0]
        · rw [kq_up_at, kw_s_lo _ _ _ (by decide), h2]
          rfl
set_option maxHeartbeats 4000000 in
set_option maxRecDepth 100000 in
theorem lu_Mo_inverse (hx : p.tables.exec = Jvm.exec) (hb : c.code = b_Mo_inverse) (hts : ∀ w ∈ w_Mo_inverse, w.before args s = true) (hown : s.vm.findClass R_Mo = some m.cls) (hml : c.maxLocals = 5) (hRf : 3 ≤ R.frames) (hRl : 66 ≤ R.locals) {E : ks_E} {mo : Nat} {far : Bool} (hE : ks_ok E) (hO : ks_O E mo far) (hB : ks_B E s) {r mr mm a0 : Nat} (hmr : ks_S E mr ∧ ks_v E mr = mm) (hodd : mm % 2 = 1) (hm8 : mm < kw_M 8) {u0 : Nat} {v : Nat → Nat}
    (kk : ∀ (w : Nat → Nat) (H : Heap) (ls : Array Slot) (locs : List Loc), ks_W E w H → kx_J mm a0 (w (mo + 19)) (w (mo + 30)) → w (mo + 19) % 2 = 1 → w (mo + 19) ∣ u0 → (w (mo + 19) = u0 ∨ u0 % 2 = 0) → (∀ q, q ≠ mo + 19 → q ≠ mo + 30 → w q = v q) → (∀ q ∈ locs, q.base = r ∨ q.base = mo + 19 ∨ q.base = mo + 20 ∨ q.base = mo + 30 ∨ q.base = mo + 31) → lv_has ls 5 [(0, .ref mo), (1, .ref r), (3, .ref mr)] → W p l e R s m args below meth c H locs 0 0 Q (F0 m 137 ls [])) :
    ∀ (n : Nat) (w : Nat → Nat) (H : Heap) (ls : Array Slot) (locs : List Loc), w (mo + 19) ≤ n → ks_W E w H → kx_J mm a0 (w (mo + 19)) (w (mo + 30)) → w (mo + 19) ∣ u0 → (w (mo + 19) = u0 ∨ u0 % 2 = 0) → (∀ q, q ≠ mo + 19 → q ≠ mo + 30 → w q = v q) → (∀ q ∈ locs, q.base = r ∨ q.base = mo + 19 ∨ q.base = mo + 20 ∨ q.base = mo + 30 ∨ q.base = mo + 31) → lv_has ls 5 [(0, .ref mo), (1, .ref r), (3, .ref mr)] → W p l e R s m args below meth c H locs 0 0 Q (F0 m 77 ls []) := by
  intro n
  induction n with
  | zero =>
    intro w H ls locs hn hW hJ hdv he ho hlc hl
    exact absurd hJ.1 (by omega)
  | succ n ih =>
    intro w H ls locs hn hW hJ hdv he ho hlc hl
    have hK := hB.1
    have hT := ks_T hE hB
    have hu := hO.2.2.1 19 (by decide) (by decide) (by decide)
    have hxo := hO.2.2.1 30 (by decide) (by decide) (by decide)
    have hOo := ks_obj hW hO.1 hO.2.1
    have hrow := ks_row hW hu
    have hsu := ks_src hE hW hB (Or.inl hu)
    have hlu := ks_lt hE hW (Or.inl hu)
    have hlx := ks_lt hE hW (Or.inl hxo)
    refine lv_aload_n hx hb d_Mo_inverse_77 rfl (lv_at hl 0 rfl) ?_
    refine kq_get hx hb hts kt_F_Mo hown hK hOo rfl 6 (by decide) kt_w382 rfl d_Mo_inverse_78 ?_
    refine lv_iconst (v := nI 0) hx hb d_Mo_inverse_81 (by decide) ?_
    refine kq_iald hx hb (hsu) ((by decide)) (by decide) (rfl) d_Mo_inverse_82 ?_
    refine lv_iconst (v := nI 1) hx hb d_Mo_inverse_83 (by decide) ?_
    refine lv_iand hx hb d_Mo_inverse_84 ?_
    refine kq_ri (show (nI (kw_d (w (mo + 19)) 0)) &&& (nI 1) = nI (w (mo + 19) % 2) from kx_and1 _) ?_
    refine lv_if_ne hx hb d_Mo_inverse_85 rfl (fun hc => ?_) (fun hc => ?_)
    · exact kk w H ls locs hW hJ (by rcases Nat.mod_two_eq_zero_or_one (w (mo + 19)) with q | q; exact absurd (by rw [q]; decide) hc; exact q) hdv he ho hlc (lv_sub hl [0, 1, 2] rfl)
    · have he2 : w (mo + 19) % 2 = 0 := (kx_n0 (by omega)).mp hc
      refine lv_aload_n hx hb d_Mo_inverse_88 rfl (lv_at hl 0 rfl) ?_
      refine kq_get hx hb hts kt_F_Mo hown hK hOo rfl 6 (by decide) kt_w382 rfl d_Mo_inverse_89 ?_
      refine lv_iconst (v := nI 0) hx hb d_Mo_inverse_92 (by decide) ?_
      refine kq_call (va_runS (As := [.ref (mo + 19), .int (nI 0)]) (rest := []) ⟨hx, hb, hml, hown, hts⟩ (c_Mo_half l H (ks_c E) (mo + 19) (w (mo + 19)) 0 hlu (by decide) hrow) (va_cwS 2 hts (kt_inS kt_w517 kt_w515 kt_w516 kt_w5) rfl rfl rfl (by decide +kernel) ⟨Nat.le_trans (Nat.le_of_ble_eq_true rfl) hRf, Nat.le_trans (Nat.le_of_ble_eq_true rfl) hRl⟩) (kq_preS (kq_st_A) (hT)) rfl rfl hl.1 rfl (lv_room (Nat.le_of_ble_eq_true rfl)) d_Mo_inverse_93 ⟨Nat.zero_le _, Nat.zero_le _⟩) (fun v9 H9 L1 hq9 hL1 => ?_)
      obtain ⟨rfl, rfl⟩ := hq9
      refine W.eq (g2 := F0 m 96 ls []) rfl ?_
      rw [show (w (mo + 19) + kw_M 8 * 0) / 2 = w (mo + 19) / 2 from rfl]
      have hW1 := ks_put hE hW hu (show w (mo + 19) / 2 < kw_M 8 by omega)
      have hOo1 := ks_obj hW1 hO.1 hO.2.1
      have hrx := ks_row hW1 hxo
      have hsx := ks_src hE hW1 hB (Or.inl hxo)
      rw [kq_up_ne (by omega)] at hrx hsx
      have hsm := ks_src hE hW1 hB (Or.inr hmr.1)
      rw [ks_cst hW1 hmr] at hsm
      have hdv2 : w (mo + 19) / 2 ∣ u0 := Nat.dvd_trans ⟨2, by omega⟩ hdv
      have he3 : w (mo + 19) / 2 = u0 ∨ u0 % 2 = 0 := by
        rcases he with q | q
        · exact Or.inr (by rw [← q]; exact he2)
        · exact Or.inr q
      have hlcA := t_lL (free := (fun q => q = r ∨ q = mo + 19 ∨ q = mo + 20 ∨ q = mo + 30 ∨ q = mo + 31)) hlc (fun q z => Or.inr (Or.inl (hL1 q z)))
      refine lv_aload_n hx hb d_Mo_inverse_96 rfl (lv_at hl 0 rfl) ?_
      refine kq_get hx hb hts kt_F_Mo hown hK hOo1 rfl 18 (by decide) kt_w394 rfl d_Mo_inverse_97 ?_
      refine lv_iconst (v := nI 0) hx hb d_Mo_inverse_100 (by decide) ?_
      refine kq_iald hx hb (hsx) ((by decide)) (by decide) (rfl) d_Mo_inverse_101 ?_
      refine lv_iconst (v := nI 1) hx hb d_Mo_inverse_102 (by decide) ?_
      refine lv_iand hx hb d_Mo_inverse_103 ?_
      refine kq_ri (show (nI (kw_d (w (mo + 30)) 0)) &&& (nI 1) = nI (w (mo + 30) % 2) from kx_and1 _) ?_
      refine lv_if_ne hx hb d_Mo_inverse_104 rfl (fun hd => ?_) (fun hd => ?_)
      · have hx1 : w (mo + 30) % 2 = 1 := by
          rcases Nat.mod_two_eq_zero_or_one (w (mo + 30)) with q | q
          · exact absurd (by rw [q]; decide) hd
          · exact q
        have hx3 := hJ.2.2.1
        have hc2 : (w (mo + 30) + mm) / kw_M 8 < 2 := Nat.div_lt_of_lt_mul (by omega)
        have hsum : ((w (mo + 30) + mm) % kw_M 8 + kw_M 8 * ((w (mo + 30) + mm) / kw_M 8)) / 2 = (w (mo + 30) + mm) / 2 := by rw [Nat.mod_add_div]
        refine lv_aload_n hx hb d_Mo_inverse_111 rfl (lv_at hl 0 rfl) ?_
        refine kq_get hx hb hts kt_F_Mo hown hK hOo1 rfl 18 (by decide) kt_w394 rfl d_Mo_inverse_112 ?_
        refine lv_aload_n hx hb d_Mo_inverse_115 rfl (lv_at hl 0 rfl) ?_
        refine kq_get hx hb hts kt_F_Mo hown hK hOo1 rfl 18 (by decide) kt_w394 rfl d_Mo_inverse_116 ?_
        refine lv_aload_n hx hb d_Mo_inverse_119 rfl (lv_at hl 2 rfl) ?_
        refine kq_call (va_runS (As := [.ref (mo + 30), .ref (mo + 30), .ref mr]) (rest := []) ⟨hx, hb, hml, hown, hts⟩ (c_Mo_add_1 l _ (ks_c E) (mo + 30) (mo + 30) mr (w (mo + 30)) (w (mo + 30)) mm hlx hlx hm8 hrx) (va_cwS 3 hts (kt_inS kt_w479 kt_w477 kt_w478 kt_w5) rfl rfl rfl (by decide +kernel) ⟨Nat.le_trans (Nat.le_of_ble_eq_true rfl) hRf, Nat.le_trans (Nat.le_of_ble_eq_true rfl) hRl⟩) (kq_preS (kq_st_A.both (kq_st_r.both kq_st_r)) (⟨hT, hsx, hsm⟩)) rfl rfl hl.1 rfl (lv_room (Nat.le_of_ble_eq_true rfl)) d_Mo_inverse_120 ⟨Nat.zero_le _, Nat.zero_le _⟩) (fun v9 H9 L2 hq9 hL2 => ?_)
        obtain ⟨rfl, rfl⟩ := hq9
        refine W.eq (g2 := F0 m 123 ls [.int (nI ((w (mo + 30) + mm) / kw_M 8))]) rfl ?_
        have hW2 := ks_put hE hW1 hxo (show (w (mo + 30) + mm) % kw_M 8 < kw_M 8 from Nat.mod_lt _ (kw_M_pos 8))
        have hOo2 := ks_obj hW2 hO.1 hO.2.1
        have hrx2 := ks_row hW2 hxo
        rw [kq_up_at] at hrx2
        refine lv_istore hx hb d_Mo_inverse_123 hl (by decide) rfl (fun ls hl => ?_)
        have hl : lv_has ls 5 [(4, .int (nI ((w (mo + 30) + mm) / kw_M 8))), (0, .ref mo), (1, .ref r), (3, .ref mr)] := hl
        refine lv_aload_n hx hb d_Mo_inverse_125 rfl (lv_at hl 1 rfl) ?_
        refine kq_get hx hb hts kt_F_Mo hown hK hOo2 rfl 18 (by decide) kt_w394 rfl d_Mo_inverse_126 ?_
        refine lv_iload hx hb d_Mo_inverse_129 (lv_at hl 0 rfl) ?_
        refine kq_call (va_runS (As := [.ref (mo + 30), .int (nI ((w (mo + 30) + mm) / kw_M 8))]) (rest := []) ⟨hx, hb, hml, hown, hts⟩ (c_Mo_half l _ (ks_c E) (mo + 30) ((w (mo + 30) + mm) % kw_M 8) ((w (mo + 30) + mm) / kw_M 8) (Nat.mod_lt _ (kw_M_pos 8)) (by omega) hrx2) (va_cwS 2 hts (kt_inS kt_w517 kt_w515 kt_w516 kt_w5) rfl rfl rfl (by decide +kernel) ⟨Nat.le_trans (Nat.le_of_ble_eq_true rfl) hRf, Nat.le_trans (Nat.le_of_ble_eq_true rfl) hRl⟩) (kq_preS (kq_st_A) (hT)) rfl rfl hl.1 rfl (lv_room (Nat.le_of_ble_eq_true rfl)) d_Mo_inverse_131 ⟨Nat.zero_le _, Nat.zero_le _⟩) (fun v9 H9 L3 hq9 hL3 => ?_)
        obtain ⟨rfl, rfl⟩ := hq9
        refine W.eq (g2 := F0 m 134 ls []) rfl ?_
        rw [hsum]
        refine kq_rH (kq_set_set _ _ _ _) ?_
        refine lv_goto hx hb d_Mo_inverse_134 rfl ?_
        refine ih _ _ ls _ ?_ (ks_put hE hW1 hxo (show (w (mo + 30) + mm) / 2 < kw_M 8 by omega)) ?_ ?_ ?_ ?_ (t_lL (free := (fun q => q = r ∨ q = mo + 19 ∨ q = mo + 20 ∨ q = mo + 30 ∨ q = mo + 31)) (t_lL (free := (fun q => q = r ∨ q = mo + 19 ∨ q = mo + 20 ∨ q = mo + 30 ∨ q = mo + 31)) hlcA (fun q z => Or.inr (Or.inr (Or.inr (Or.inl (hL2 q z)))))) (fun q z => Or.inr (Or.inr (Or.inr (Or.inl (hL3 q z)))))) (lv_sub hl [1, 2, 3] rfl)
        · rw [kq_up_ne (by omega), kq_up_at]
          omega
        · rw [kq_up_at, kq_up_ne (by omega), kq_up_at]
          exact kx_halve hodd hJ he2 (Or.inr (by omega))
        · rw [kq_up_ne (by omega), kq_up_at]
          exact hdv2
        · rw [kq_up_ne (by omega), kq_up_at]
          exact he3
        · exact fun q q1 q2 => by rw [kq_up_ne q2, kq_up_ne q1]; exact ho q q1 q2
      · have hx1 : w (mo + 30) % 2 = 0 := (kx_n0 (by omega)).mp hd
        refine lv_iconst (v := nI 0) hx hb d_Mo_inverse_107 (by decide) ?_
        refine lv_goto hx hb d_Mo_inverse_108 rfl ?_
        refine lv_istore hx hb d_Mo_inverse_123 hl (by decide) rfl (fun ls hl => ?_)
        have hl : lv_has ls 5 [(4, .int (nI 0)), (0, .ref mo), (1, .ref r), (3, .ref mr)] := hl
        refine lv_aload_n hx hb d_Mo_inverse_125 rfl (lv_at hl 1 rfl) ?_
        refine kq_get hx hb hts kt_F_Mo hown hK hOo1 rfl 18 (by decide) kt_w394 rfl d_Mo_inverse_126 ?_
        refine lv_iload hx hb d_Mo_inverse_129 (lv_at hl 0 rfl) ?_
        refine kq_call (va_runS (As := [.ref (mo + 30), .int (nI 0)]) (rest := []) ⟨hx, hb, hml, hown, hts⟩ (c_Mo_half l _ (ks_c E) (mo + 30) (w (mo + 30)) 0 hlx (by decide) hrx) (va_cwS 2 hts (kt_inS kt_w517 kt_w515 kt_w516 kt_w5) rfl rfl rfl (by decide +kernel) ⟨Nat.le_trans (Nat.le_of_ble_eq_true rfl) hRf, Nat.le_trans (Nat.le_of_ble_eq_true rfl) hRl⟩) (kq_preS (kq_st_A) (hT)) rfl rfl hl.1 rfl (lv_room (Nat.le_of_ble_eq_true rfl)) d_Mo_inverse_131 ⟨Nat.zero_le _, Nat.zero_le _⟩) (fun v9 H9 L3 hq9 hL3 => ?_)
        obtain ⟨rfl, rfl⟩ := hq9
        refine W.eq (g2 := F0 m 134 ls []) rfl ?_
        rw [show (w (mo + 30) + kw_M 8 * 0) / 2 = w (mo + 30) / 2 from rfl]
        refine lv_goto hx hb d_Mo_inverse_134 rfl ?_
        refine ih _ _ ls _ ?_ (ks_put hE hW1 hxo (show w (mo + 30) / 2 < kw_M 8 by omega)) ?_ ?_ ?_ ?_ (t_lL (free := (fun q => q = r ∨ q = mo + 19 ∨ q = mo + 20 ∨ q = mo + 30 ∨ q = mo + 31)) hlcA (fun q z => Or.inr (Or.inr (Or.inr (Or.inl (hL3 q z)))))) (lv_sub hl [1, 2, 3] rfl)
        · rw [kq_up_ne (by omega), kq_up_at]
          omega
        · rw [kq_up_at, kq_up_ne (by omega), kq_up_at]
          exact kx_halve hodd hJ he2 (Or.inl (by omega))
        · rw [kq_up_ne (by omega), kq_up_at]
          exact hdv2
        · rw [kq_up_ne (by omega), kq_up_at]
          exact he3
        · exact fun q q1 q2 => by rw [kq_up_ne q2, kq_up_ne q1]; exact ho q q1 q2
set_option maxHeartbeats 4000000 in
set_option maxRecDepth 100000 in
theorem lv_Mo_inverse (hx : p.tables.exec = Jvm.exec) (hb : c.code = b_Mo_inverse) (hts : ∀ w ∈ w_Mo_inverse, w.before args s = true) (hown : s.vm.findClass R_Mo = some m.cls) (hml : c.maxLocals = 5) (hRf : 3 ≤ R.frames) (hRl : 66 ≤ R.locals) {E : ks_E} {mo : Nat} {far : Bool} (hE : ks_ok E) (hO : ks_O E mo far) (hB : ks_B E s) {r mr mm a0 : Nat} (hmr : ks_S E mr ∧ ks_v E mr = mm) (hodd : mm % 2 = 1) (hm8 : mm < kw_M 8) {u0 : Nat} {v : Nat → Nat}
    (kk : ∀ (w : Nat → Nat) (H : Heap) (ls : Array Slot) (locs : List Loc), ks_W E w H → kx_J mm a0 (w (mo + 20)) (w (mo + 31)) → w (mo + 20) % 2 = 1 → w (mo + 20) ∣ u0 → (w (mo + 20) = u0 ∨ u0 % 2 = 0) → (∀ q, q ≠ mo + 20 → q ≠ mo + 31 → w q = v q) → (∀ q ∈ locs, q.base = r ∨ q.base = mo + 19 ∨ q.base = mo + 20 ∨ q.base = mo + 30 ∨ q.base = mo + 31) → lv_has ls 5 [(0, .ref mo), (1, .ref r), (3, .ref mr)] → W p l e R s m args below meth c H locs 0 0 Q (F0 m 197 ls [])) :
    ∀ (n : Nat) (w : Nat → Nat) (H : Heap) (ls : Array Slot) (locs : List Loc), w (mo + 20) ≤ n → ks_W E w H → kx_J mm a0 (w (mo + 20)) (w (mo + 31)) → w (mo + 20) ∣ u0 → (w (mo + 20) = u0 ∨ u0 % 2 = 0) → (∀ q, q ≠ mo + 20 → q ≠ mo + 31 → w q = v q) → (∀ q ∈ locs, q.base = r ∨ q.base = mo + 19 ∨ q.base = mo + 20 ∨ q.base = mo + 30 ∨ q.base = mo + 31) → lv_has ls 5 [(0, .ref mo), (1, .ref r), (3, .ref mr)] → W p l e R s m args below meth c H locs 0 0 Q (F0 m 137 ls []) := by
  intro n
  induction n with
  | zero =>
    intro w H ls locs hn hW hJ hdv he ho hlc hl
    exact absurd hJ.1 (by omega)
  | succ n ih =>
    intro w H ls locs hn hW hJ hdv he ho hlc hl
    have hK := hB.1
    have hT := ks_T hE hB
    have hu := hO.2.2.1 20 (by decide) (by decide) (by decide)
    have hxo := hO.2.2.1 31 (by decide) (by decide) (by decide)
    have hOo := ks_obj hW hO.1 hO.2.1
    have hrow := ks_row hW hu
    have hsu := ks_src hE hW hB (Or.inl hu)
    have hlu := ks_lt hE hW (Or.inl hu)
    have hlx := ks_lt hE hW (Or.inl hxo)
    refine lv_aload_n hx hb d_Mo_inverse_137 rfl (lv_at hl 0 rfl) ?_
    refine kq_get hx hb hts kt_F_Mo hown hK hOo rfl 7 (by decide) kt_w383 rfl d_Mo_inverse_138 ?_
    refine lv_iconst (v := nI 0) hx hb d_Mo_inverse_141 (by decide) ?_
    refine kq_iald hx hb (hsu) ((by decide)) (by decide) (rfl) d_Mo_inverse_142 ?_
    refine lv_iconst (v := nI 1) hx hb d_Mo_inverse_143 (by decide) ?_
    refine lv_iand hx hb d_Mo_inverse_144 ?_
    refine kq_ri (show (nI (kw_d (w (mo + 20)) 0)) &&& (nI 1) = nI (w (mo + 20) % 2) from kx_and1 _) ?_
    refine lv_if_ne hx hb d_Mo_inverse_145 rfl (fun hc => ?_) (fun hc => ?_)
    · exact kk w H ls locs hW hJ (by rcases Nat.mod_two_eq_zero_or_one (w (mo + 20)) with q | q; exact absurd (by rw [q]; decide) hc; exact q) hdv he ho hlc (lv_sub hl [0, 1, 2] rfl)
    · have he2 : w (mo + 20) % 2 = 0 := (kx_n0 (by omega)).mp hc
      refine lv_aload_n hx hb d_Mo_inverse_148 rfl (lv_at hl 0 rfl) ?_
      refine kq_get hx hb hts kt_F_Mo hown hK hOo rfl 7 (by decide) kt_w383 rfl d_Mo_inverse_149 ?_
      refine lv_iconst (v := nI 0) hx hb d_Mo_inverse_152 (by decide) ?_
      refine kq_call (va_runS (As := [.ref (mo + 20), .int (nI 0)]) (rest := []) ⟨hx, hb, hml, hown, hts⟩ (c_Mo_half l H (ks_c E) (mo + 20) (w (mo + 20)) 0 hlu (by decide) hrow) (va_cwS 2 hts (kt_inS kt_w517 kt_w515 kt_w516 kt_w5) rfl rfl rfl (by decide +kernel) ⟨Nat.le_trans (Nat.le_of_ble_eq_true rfl) hRf, Nat.le_trans (Nat.le_of_ble_eq_true rfl) hRl⟩) (kq_preS (kq_st_A) (hT)) rfl rfl hl.1 rfl (lv_room (Nat.le_of_ble_eq_true rfl)) d_Mo_inverse_153 ⟨Nat.zero_le _, Nat.zero_le _⟩) (fun v9 H9 L1 hq9 hL1 => ?_)
      obtain ⟨rfl, rfl⟩ := hq9
      refine W.eq (g2 := F0 m 156 ls []) rfl ?_
      rw [show (w (mo + 20) + kw_M 8 * 0) / 2 = w (mo + 20) / 2 from rfl]
      have hW1 := ks_put hE hW hu (show w (mo + 20) / 2 < kw_M 8 by omega)
      have hOo1 := ks_obj hW1 hO.1 hO.2.1
      have hrx := ks_row hW1 hxo
      have hsx := ks_src hE hW1 hB (Or.inl hxo)
      rw [kq_up_ne (by omega)] at hrx hsx
      have hsm := ks_src hE hW1 hB (Or.inr hmr.1)
      rw [ks_cst hW1 hmr] at hsm
      have hdv2 : w (mo + 20) / 2 ∣ u0 := Nat.dvd_trans ⟨2, by omega⟩ hdv
      have he3 : w (mo + 20) / 2 = u0 ∨ u0 % 2 = 0 := by
        rcases he with q | q
        · exact Or.inr (by rw [← q]; exact he2)
        · exact Or.inr q
      have hlcA := t_lL (free := (fun q => q = r ∨ q = mo + 19 ∨ q = mo + 20 ∨ q = mo + 30 ∨ q = mo + 31)) hlc (fun q z => Or.inr (Or.inr (Or.inl (hL1 q z))))
      refine lv_aload_n hx hb d_Mo_inverse_156 rfl (lv_at hl 0 rfl) ?_
      refine kq_get hx hb hts kt_F_Mo hown hK hOo1 rfl 19 (by decide) kt_w395 rfl d_Mo_inverse_157 ?_
      refine lv_iconst (v := nI 0) hx hb d_Mo_inverse_160 (by decide) ?_
      refine kq_iald hx hb (hsx) ((by decide)) (by decide) (rfl) d_Mo_inverse_161 ?_
      refine lv_iconst (v := nI 1) hx hb d_Mo_inverse_162 (by decide) ?_
      refine lv_iand hx hb d_Mo_inverse_163 ?_
      refine kq_ri (show (nI (kw_d (w (mo + 31)) 0)) &&& (nI 1) = nI (w (mo + 31) % 2) from kx_and1 _) ?_
      refine lv_if_ne hx hb d_Mo_inverse_164 rfl (fun hd => ?_) (fun hd => ?_)
      · have hx1 : w (mo + 31) % 2 = 1 := by
          rcases Nat.mod_two_eq_zero_or_one (w (mo + 31)) with q | q
          · exact absurd (by rw [q]; decide) hd
          · exact q
        have hx3 := hJ.2.2.1
        have hc2 : (w (mo + 31) + mm) / kw_M 8 < 2 := Nat.div_lt_of_lt_mul (by omega)
        have hsum : ((w (mo + 31) + mm) % kw_M 8 + kw_M 8 * ((w (mo + 31) + mm) / kw_M 8)) / 2 = (w (mo + 31) + mm) / 2 := by rw [Nat.mod_add_div]
        refine lv_aload_n hx hb d_Mo_inverse_171 rfl (lv_at hl 0 rfl) ?_
        refine kq_get hx hb hts kt_F_Mo hown hK hOo1 rfl 19 (by decide) kt_w395 rfl d_Mo_inverse_172 ?_
        refine lv_aload_n hx hb d_Mo_inverse_175 rfl (lv_at hl 0 rfl) ?_
        refine kq_get hx hb hts kt_F_Mo hown hK hOo1 rfl 19 (by decide) kt_w395 rfl d_Mo_inverse_176 ?_
        refine lv_aload_n hx hb d_Mo_inverse_179 rfl (lv_at hl 2 rfl) ?_
        refine kq_call (va_runS (As := [.ref (mo + 31), .ref (mo + 31), .ref mr]) (rest := []) ⟨hx, hb, hml, hown, hts⟩ (c_Mo_add_1 l _ (ks_c E) (mo + 31) (mo + 31) mr (w (mo + 31)) (w (mo + 31)) mm hlx hlx hm8 hrx) (va_cwS 3 hts (kt_inS kt_w479 kt_w477 kt_w478 kt_w5) rfl rfl rfl (by decide +kernel) ⟨Nat.le_trans (Nat.le_of_ble_eq_true rfl) hRf, Nat.le_trans (Nat.le_of_ble_eq_true rfl) hRl⟩) (kq_preS (kq_st_A.both (kq_st_r.both kq_st_r)) (⟨hT, hsx, hsm⟩)) rfl rfl hl.1 rfl (lv_room (Nat.le_of_ble_eq_true rfl)) d_Mo_inverse_180 ⟨Nat.zero_le _, Nat.zero_le _⟩) (fun v9 H9 L2 hq9 hL2 => ?_)
        obtain ⟨rfl, rfl⟩ := hq9
        refine W.eq (g2 := F0 m 183 ls [.int (nI ((w (mo + 31) + mm) / kw_M 8))]) rfl ?_
        have hW2 := ks_put hE hW1 hxo (show (w (mo + 31) + mm) % kw_M 8 < kw_M 8 from Nat.mod_lt _ (kw_M_pos 8))
        have hOo2 := ks_obj hW2 hO.1 hO.2.1
        have hrx2 := ks_row hW2 hxo
        rw [kq_up_at] at hrx2
        refine lv_istore hx hb d_Mo_inverse_183 hl (by decide) rfl (fun ls hl => ?_)
        have hl : lv_has ls 5 [(4, .int (nI ((w (mo + 31) + mm) / kw_M 8))), (0, .ref mo), (1, .ref r), (3, .ref mr)] := hl
        refine lv_aload_n hx hb d_Mo_inverse_185 rfl (lv_at hl 1 rfl) ?_
        refine kq_get hx hb hts kt_F_Mo hown hK hOo2 rfl 19 (by decide) kt_w395 rfl d_Mo_inverse_186 ?_
        refine lv_iload hx hb d_Mo_inverse_189 (lv_at hl 0 rfl) ?_
        refine kq_call (va_runS (As := [.ref (mo + 31), .int (nI ((w (mo + 31) + mm) / kw_M 8))]) (rest := []) ⟨hx, hb, hml, hown, hts⟩ (c_Mo_half l _ (ks_c E) (mo + 31) ((w (mo + 31) + mm) % kw_M 8) ((w (mo + 31) + mm) / kw_M 8) (Nat.mod_lt _ (kw_M_pos 8)) (by omega) hrx2) (va_cwS 2 hts (kt_inS kt_w517 kt_w515 kt_w516 kt_w5) rfl rfl rfl (by decide +kernel) ⟨Nat.le_trans (Nat.le_of_ble_eq_true rfl) hRf, Nat.le_trans (Nat.le_of_ble_eq_true rfl) hRl⟩) (kq_preS (kq_st_A) (hT)) rfl rfl hl.1 rfl (lv_room (Nat.le_of_ble_eq_true rfl)) d_Mo_inverse_191 ⟨Nat.zero_le _, Nat.zero_le _⟩) (fun v9 H9 L3 hq9 hL3 => ?_)
        obtain ⟨rfl, rfl⟩ := hq9
        refine W.eq (g2 := F0 m 194 ls []) rfl ?_
        rw [hsum]
        refine kq_rH (kq_set_set _ _ _ _) ?_
        refine lv_goto hx hb d_Mo_inverse_194 rfl ?_
        refine ih _ _ ls _ ?_ (ks_put hE hW1 hxo (show (w (mo + 31) + mm) / 2 < kw_M 8 by omega)) ?_ ?_ ?_ ?_ (t_lL (free := (fun q => q = r ∨ q = mo + 19 ∨ q = mo + 20 ∨ q = mo + 30 ∨ q = mo + 31)) (t_lL (free := (fun q => q = r ∨ q = mo + 19 ∨ q = mo + 20 ∨ q = mo + 30 ∨ q = mo + 31)) hlcA (fun q z => Or.inr (Or.inr (Or.inr (Or.inr (hL2 q z)))))) (fun q z => Or.inr (Or.inr (Or.inr (Or.inr (hL3 q z)))))) (lv_sub hl [1, 2, 3] rfl)
        · rw [kq_up_ne (by omega), kq_up_at]
          omega
        · rw [kq_up_at, kq_up_ne (by omega), kq_up_at]
          exact kx_halve hodd hJ he2 (Or.inr (by omega))
        · rw [kq_up_ne (by omega), kq_up_at]
          exact hdv2
        · rw [kq_up_ne (by omega), kq_up_at]
          exact he3
        · exact fun q q1 q2 => by rw [kq_up_ne q2, kq_up_ne q1]; exact ho q q1 q2
      · have hx1 : w (mo + 31) % 2 = 0 := (kx_n0 (by omega)).mp hd
        refine lv_iconst (v := nI 0) hx hb d_Mo_inverse_167 (by decide) ?_
        refine lv_goto hx hb d_Mo_inverse_168 rfl ?_
        refine lv_istore hx hb d_Mo_inverse_183 hl (by decide) rfl (fun ls hl => ?_)
        have hl : lv_has ls 5 [(4, .int (nI 0)), (0, .ref mo), (1, .ref r), (3, .ref mr)] := hl
        refine lv_aload_n hx hb d_Mo_inverse_185 rfl (lv_at hl 1 rfl) ?_
        refine kq_get hx hb hts kt_F_Mo hown hK hOo1 rfl 19 (by decide) kt_w395 rfl d_Mo_inverse_186 ?_
        refine lv_iload hx hb d_Mo_inverse_189 (lv_at hl 0 rfl) ?_
        refine kq_call (va_runS (As := [.ref (mo + 31), .int (nI 0)]) (rest := []) ⟨hx, hb, hml, hown, hts⟩ (c_Mo_half l _ (ks_c E) (mo + 31) (w (mo + 31)) 0 hlx (by decide) hrx) (va_cwS 2 hts (kt_inS kt_w517 kt_w515 kt_w516 kt_w5) rfl rfl rfl (by decide +kernel) ⟨Nat.le_trans (Nat.le_of_ble_eq_true rfl) hRf, Nat.le_trans (Nat.le_of_ble_eq_true rfl) hRl⟩) (kq_preS (kq_st_A) (hT)) rfl rfl hl.1 rfl (lv_room (Nat.le_of_ble_eq_true rfl)) d_Mo_inverse_191 ⟨Nat.zero_le _, Nat.zero_le _⟩) (fun v9 H9 L3 hq9 hL3 => ?_)
        obtain ⟨rfl, rfl⟩ := hq9
        refine W.eq (g2 := F0 m 194 ls []) rfl ?_
        rw [show (w (mo + 31) + kw_M 8 * 0) / 2 = w (mo + 31) / 2 from rfl]
        refine lv_goto hx hb d_Mo_inverse_194 rfl ?_
        refine ih _ _ ls _ ?_ (ks_put hE hW1 hxo (show w (mo + 31) / 2 < kw_M 8 by omega)) ?_ ?_ ?_ ?_ (t_lL (free := (fun q => q = r ∨ q = mo + 19 ∨ q = mo + 20 ∨ q = mo + 30 ∨ q = mo + 31)) hlcA (fun q z => Or.inr (Or.inr (Or.inr (Or.inr (hL3 q z)))))) (lv_sub hl [1, 2, 3] rfl)
        · rw [kq_up_ne (by omega), kq_up_at]
          omega
        · rw [kq_up_at, kq_up_ne (by omega), kq_up_at]
          exact kx_halve hodd hJ he2 (Or.inl (by omega))
        · rw [kq_up_ne (by omega), kq_up_at]
          exact hdv2
        · rw [kq_up_ne (by omega), kq_up_at]
          exact he3
        · exact fun q q1 q2 => by rw [kq_up_ne q2, kq_up_ne q1]; exact ho q q1 q2
set_option maxHeartbeats 4000000 in
set_option maxRecDepth 100000 in
theorem lo_Mo_inverse (hx : p.tables.exec = Jvm.exec) (hb : c.code = b_Mo_inverse) (hts : ∀ w ∈ w_Mo_inverse, w.before args s = true) (hown : s.vm.findClass R_Mo = some m.cls) (hml : c.maxLocals = 5) (hRf : 3 ≤ R.frames) (hRl : 66 ≤ R.locals) {E : ks_E} {mo : Nat} {far : Bool} (hE : ks_ok E) (hO : ks_O E mo far) (hB : ks_B E s) {r mr mm a0 : Nat} (hmr : ks_S E mr ∧ ks_v E mr = mm) (hodd : mm % 2 = 1) (hm8 : mm < kw_M 8) {v : Nat → Nat}
    (kk : ∀ (w : Nat → Nat) (H : Heap) (ls : Array Slot) (locs : List Loc), ks_W E w H → kx_J mm a0 (w (mo + 19)) (w (mo + 30)) → kx_J mm a0 (w (mo + 20)) (w (mo + 31)) → (w (mo + 19) = 1 ∨ w (mo + 20) = 1) → (∀ q, q ≠ mo + 19 → q ≠ mo + 20 → q ≠ mo + 30 → q ≠ mo + 31 → w q = v q) → (∀ q ∈ locs, q.base = r ∨ q.base = mo + 19 ∨ q.base = mo + 20 ∨ q.base = mo + 30 ∨ q.base = mo + 31) → lv_has ls 5 [(0, .ref mo), (1, .ref r), (3, .ref mr)] → W p l e R s m args below meth c H locs 0 0 Q (F0 m 311 ls [])) :
    ∀ (n : Nat) (w : Nat → Nat) (H : Heap) (ls : Array Slot) (locs : List Loc), w (mo + 19) + w (mo + 20) ≤ n → ks_W E w H → kx_J mm a0 (w (mo + 19)) (w (mo + 30)) → kx_J mm a0 (w (mo + 20)) (w (mo + 31)) → Nat.gcd (w (mo + 19)) (w (mo + 20)) = 1 → (∀ q, q ≠ mo + 19 → q ≠ mo + 20 → q ≠ mo + 30 → q ≠ mo + 31 → w q = v q) → (∀ q ∈ locs, q.base = r ∨ q.base = mo + 19 ∨ q.base = mo + 20 ∨ q.base = mo + 30 ∨ q.base = mo + 31) → lv_has ls 5 [(0, .ref mo), (1, .ref r), (3, .ref mr)] → W p l e R s m args below meth c H locs 0 0 Q (F0 m 57 ls []) := by
  intro n
  induction n with
  | zero =>
    intro w H ls locs hn hW hJ hL hg ho hlc hl
    exact absurd hJ.1 (by omega)
  | succ n ih =>
    intro w H ls locs hn hW hJ hL hg ho hlc hl
    have hK := hB.1
    have hT := ks_T hE hB
    have h19 := hO.2.2.1 19 (by decide) (by decide) (by decide)
    have h20 := hO.2.2.1 20 (by decide) (by decide) (by decide)
    have h30 := hO.2.2.1 30 (by decide) (by decide) (by decide)
    have h31 := hO.2.2.1 31 (by decide) (by decide) (by decide)
    have hOo := ks_obj hW hO.1 hO.2.1
    have hs19 := ks_src hE hW hB (Or.inl h19)
    have hl19 := ks_lt hE hW (Or.inl h19)
    have hs20 := ks_src hE hW hB (Or.inl h20)
    have hl20 := ks_lt hE hW (Or.inl h20)
    refine lv_aload_n hx hb d_Mo_inverse_57 rfl (lv_at hl 0 rfl) ?_
    refine kq_get hx hb hts kt_F_Mo hown hK hOo rfl 6 (by decide) kt_w382 rfl d_Mo_inverse_58 ?_
    refine kq_call (va_runS (As := [.ref (mo + 19)]) (rest := []) ⟨hx, hb, hml, hown, hts⟩ (c_Mo_isOne l H (mo + 19) (w (mo + 19)) hl19) (va_cwS 1 hts (kt_inS kt_w514 kt_w512 kt_w513 kt_w5) rfl rfl rfl (by decide +kernel) ⟨Nat.le_trans (Nat.le_of_ble_eq_true rfl) hRf, Nat.le_trans (Nat.le_of_ble_eq_true rfl) hRl⟩) (kq_preS (kq_st_r) (hs19)) rfl rfl hl.1 rfl (lv_room (Nat.le_of_ble_eq_true rfl)) d_Mo_inverse_61 ⟨Nat.zero_le _, Nat.zero_le _⟩) (fun v9 H9 L1 hq9 hL1 => ?_)
    obtain ⟨rfl, e9⟩ := hq9
    rw [e9]
    clear e9
    refine W.eq (g2 := F0 m 64 ls [.int (kq_z (decide (w (mo + 19) = 1)))]) rfl ?_
    have hlc1 := t_lL (free := (fun q => q = r ∨ q = mo + 19 ∨ q = mo + 20 ∨ q = mo + 30 ∨ q = mo + 31)) hlc (fun q z => (hL1 q z).elim)
    refine lv_if_ne hx hb d_Mo_inverse_64 rfl (fun hc => ?_) (fun hc => ?_)
    · exact kk w H ls _ hW hJ hL (Or.inl (kq_z_ne.mp hc)) ho hlc1 (lv_sub hl [0, 1, 2] rfl)
    · have hu1 := kq_z_eq.mp hc
      refine lv_aload_n hx hb d_Mo_inverse_67 rfl (lv_at hl 0 rfl) ?_
      refine kq_get hx hb hts kt_F_Mo hown hK hOo rfl 7 (by decide) kt_w383 rfl d_Mo_inverse_68 ?_
      refine kq_call (va_runS (As := [.ref (mo + 20)]) (rest := []) ⟨hx, hb, hml, hown, hts⟩ (c_Mo_isOne l H (mo + 20) (w (mo + 20)) hl20) (va_cwS 1 hts (kt_inS kt_w514 kt_w512 kt_w513 kt_w5) rfl rfl rfl (by decide +kernel) ⟨Nat.le_trans (Nat.le_of_ble_eq_true rfl) hRf, Nat.le_trans (Nat.le_of_ble_eq_true rfl) hRl⟩) (kq_preS (kq_st_r) (hs20)) rfl rfl hl.1 rfl (lv_room (Nat.le_of_ble_eq_true rfl)) d_Mo_inverse_71 ⟨Nat.zero_le _, Nat.zero_le _⟩) (fun v9 H9 L2 hq9 hL2 => ?_)
      obtain ⟨rfl, e9⟩ := hq9
      rw [e9]
      clear e9
      refine W.eq (g2 := F0 m 74 ls [.int (kq_z (decide (w (mo + 20) = 1)))]) rfl ?_
      have hlc2 := t_lL (free := (fun q => q = r ∨ q = mo + 19 ∨ q = mo + 20 ∨ q = mo + 30 ∨ q = mo + 31)) hlc1 (fun q z => (hL2 q z).elim)
      refine lv_if_ne hx hb d_Mo_inverse_74 rfl (fun hd => ?_) (fun hd => ?_)
      · exact kk w H ls _ hW hJ hL (Or.inr (kq_z_ne.mp hd)) ho hlc2 (lv_sub hl [0, 1, 2] rfl)
      · have hv1 := kq_z_eq.mp hd
        refine lu_Mo_inverse hx hb hts hown hml hRf hRl hE hO hB hmr hodd hm8 (a0 := a0) (u0 := w (mo + 19)) (v := w) (fun wu Hu ls Lu hWu hJu huo hdu heu hou hlu hl => ?_) _ w H ls _ (Nat.le_refl _) hW hJ (Nat.dvd_refl _) (Or.inl rfl) (fun _ _ _ => rfl) hlc2 (lv_sub hl [0, 1, 2] rfl)
        refine lv_Mo_inverse hx hb hts hown hml hRf hRl hE hO hB hmr hodd hm8 (a0 := a0) (u0 := wu (mo + 20)) (v := wu) (fun wv Hv ls Lv hWv hJv hvo hdv hev hov hlv hl => ?_) _ wu Hu ls Lu (Nat.le_refl _) hWu (by rw [hou (mo + 20) (by omega) (by omega), hou (mo + 31) (by omega) (by omega)]; exact hL) (Nat.dvd_refl _) (Or.inl rfl) (fun _ _ _ => rfl) hlu (lv_sub hl [0, 1, 2] rfl)
        rw [← hov (mo + 19) (by omega) (by omega)] at hJu huo hdu heu
        rw [← hov (mo + 30) (by omega) (by omega)] at hJu
        rw [hou (mo + 20) (by omega) (by omega)] at hdv hev
        have hg2 := kx_gcd hg hdu hdv
        have hne : wv (mo + 19) ≠ wv (mo + 20) := by
          intro q
          rw [q, Nat.gcd_self] at hg2
          rw [q, hg2] at heu
          rw [hg2] at hev
          have e1 : w (mo + 19) % 2 = 0 := heu.elim (fun z => absurd z.symm hu1) id
          have e2 : w (mo + 20) % 2 = 0 := hev.elim (fun z => absurd z.symm hv1) id
          have e3 := Nat.dvd_gcd (Nat.dvd_of_mod_eq_zero e1) (Nat.dvd_of_mod_eq_zero e2)
          rw [hg] at e3
          exact absurd (Nat.le_of_dvd (by decide) e3) (by decide)
        have hbu := Nat.le_of_dvd hJ.1 hdu
        have hbv := Nat.le_of_dvd hL.1 hdv
        have hO3 := ks_obj hWv hO.1 hO.2.1
        have r19 := ks_row hWv h19
        have s19 := ks_src hE hWv hB (Or.inl h19)
        have l19 := ks_lt hE hWv (Or.inl h19)
        have r20 := ks_row hWv h20
        have s20 := ks_src hE hWv hB (Or.inl h20)
        have l20 := ks_lt hE hWv (Or.inl h20)
        have l30 := ks_lt hE hWv (Or.inl h30)
        have l31 := ks_lt hE hWv (Or.inl h31)
        have b30 := hJu.2.2.1
        have b31 := hJv.2.2.1
        have ho4 : ∀ q, q ≠ mo + 19 → q ≠ mo + 20 → q ≠ mo + 30 → q ≠ mo + 31 → wv q = v q := fun q q1 q2 q3 q4 => by rw [hov q q2 q4, hou q q1 q3]; exact ho q q1 q2 q3 q4
        refine lv_aload_n hx hb d_Mo_inverse_197 rfl (lv_at hl 0 rfl) ?_
        refine kq_get hx hb hts kt_F_Mo hown hK hO3 rfl 6 (by decide) kt_w382 rfl d_Mo_inverse_198 ?_
        refine lv_aload_n hx hb d_Mo_inverse_201 rfl (lv_at hl 0 rfl) ?_
        refine kq_get hx hb hts kt_F_Mo hown hK hO3 rfl 7 (by decide) kt_w383 rfl d_Mo_inverse_202 ?_
        refine kq_call (va_runS (As := [.ref (mo + 19), .ref (mo + 20)]) (rest := []) ⟨hx, hb, hml, hown, hts⟩ (c_Mo_compare l Hv (mo + 19) (mo + 20) (wv (mo + 19)) (wv (mo + 20)) l19 l20) (va_cwS 2 hts (kt_inS kt_w465 kt_w463 kt_w464 kt_w5) rfl rfl rfl (by decide +kernel) ⟨Nat.le_trans (Nat.le_of_ble_eq_true rfl) hRf, Nat.le_trans (Nat.le_of_ble_eq_true rfl) hRl⟩) (kq_preS (kq_st_r.both kq_st_r) (⟨s19, s20⟩)) rfl rfl hl.1 rfl (lv_room (Nat.le_of_ble_eq_true rfl)) d_Mo_inverse_205 ⟨Nat.zero_le _, Nat.zero_le _⟩) (fun v9 H9 L3 hq9 hL3 => ?_)
        obtain ⟨rfl, e9⟩ := hq9
        rw [e9]
        clear e9
        refine W.eq (g2 := F0 m 208 ls [.int (kx_cmp (wv (mo + 19)) (wv (mo + 20)))]) rfl ?_
        have hlc3 := t_lL (free := (fun q => q = r ∨ q = mo + 19 ∨ q = mo + 20 ∨ q = mo + 30 ∨ q = mo + 31)) hlv (fun q z => (hL3 q z).elim)
        refine lv_if_lt hx hb d_Mo_inverse_208 rfl (fun hcm => ?_) (fun hcm => ?_)
        · have hlt : wv (mo + 19) < wv (mo + 20) := kx_cmp_lt.mp hcm
          refine lv_aload_n hx hb d_Mo_inverse_261 rfl (lv_at hl 0 rfl) ?_
          refine kq_get hx hb hts kt_F_Mo hown hK hO3 rfl 7 (by decide) kt_w383 rfl d_Mo_inverse_262 ?_
          refine lv_aload_n hx hb d_Mo_inverse_265 rfl (lv_at hl 0 rfl) ?_
          refine kq_get hx hb hts kt_F_Mo hown hK hO3 rfl 7 (by decide) kt_w383 rfl d_Mo_inverse_266 ?_
          refine lv_aload_n hx hb d_Mo_inverse_269 rfl (lv_at hl 0 rfl) ?_
          refine kq_get hx hb hts kt_F_Mo hown hK hO3 rfl 6 (by decide) kt_w382 rfl d_Mo_inverse_270 ?_
          refine kq_call (va_runS (As := [.ref (mo + 20), .ref (mo + 20), .ref (mo + 19)]) (rest := []) ⟨hx, hb, hml, hown, hts⟩ (c_Mo_sub l Hv (ks_c E) (mo + 20) (mo + 20) (mo + 19) (wv (mo + 20)) (wv (mo + 20)) (wv (mo + 19)) l20 l20 l19 r20) (va_cwS 3 hts (kt_inS kt_w475 kt_w473 kt_w474 kt_w5) rfl rfl rfl (by decide +kernel) ⟨Nat.le_trans (Nat.le_of_ble_eq_true rfl) hRf, Nat.le_trans (Nat.le_of_ble_eq_true rfl) hRl⟩) (kq_preS (kq_st_A.both (kq_st_r.both kq_st_r)) (⟨hT, s20, s19⟩)) rfl rfl hl.1 rfl (lv_room (Nat.le_of_ble_eq_true rfl)) d_Mo_inverse_273 ⟨Nat.zero_le _, Nat.zero_le _⟩) (fun v9 H9 L4 hq9 hL4 => ?_)
          obtain ⟨rfl, rfl⟩ := hq9
          refine W.eq (g2 := F0 m 276 ls [.int (nI (18446744073709551616 - (if wv (mo + 20) < wv (mo + 19) then 1 else 0)))]) rfl ?_
          rw [kx_sub_le (Nat.le_of_lt hlt) l20]
          have hW4 := ks_put hE hWv h20 (show wv (mo + 20) - wv (mo + 19) < kw_M 8 by omega)
          have hO4 := ks_obj hW4 hO.1 hO.2.1
          have rX := ks_row hW4 h31
          have sX := ks_src hE hW4 hB (Or.inl h31)
          have sZ := ks_src hE hW4 hB (Or.inl h30)
          rw [kq_up_ne (by omega)] at rX sX sZ
          have hlc4 := t_lL (free := (fun q => q = r ∨ q = mo + 19 ∨ q = mo + 20 ∨ q = mo + 30 ∨ q = mo + 31)) hlc3 (fun q z => Or.inr (Or.inr (Or.inl (hL4 q z))))
          refine lv_pop hx hb d_Mo_inverse_276 rfl ?_
          refine lv_aload_n hx hb d_Mo_inverse_277 rfl (lv_at hl 0 rfl) ?_
          refine kq_get hx hb hts kt_F_Mo hown hK hO4 rfl 19 (by decide) kt_w395 rfl d_Mo_inverse_278 ?_
          refine lv_aload_n hx hb d_Mo_inverse_281 rfl (lv_at hl 0 rfl) ?_
          refine kq_get hx hb hts kt_F_Mo hown hK hO4 rfl 19 (by decide) kt_w395 rfl d_Mo_inverse_282 ?_
          refine lv_aload_n hx hb d_Mo_inverse_285 rfl (lv_at hl 0 rfl) ?_
          refine kq_get hx hb hts kt_F_Mo hown hK hO4 rfl 18 (by decide) kt_w394 rfl d_Mo_inverse_286 ?_
          refine kq_call (va_runS (As := [.ref (mo + 31), .ref (mo + 31), .ref (mo + 30)]) (rest := []) ⟨hx, hb, hml, hown, hts⟩ (c_Mo_sub l _ (ks_c E) (mo + 31) (mo + 31) (mo + 30) (wv (mo + 31)) (wv (mo + 31)) (wv (mo + 30)) l31 l31 l30 rX) (va_cwS 3 hts (kt_inS kt_w475 kt_w473 kt_w474 kt_w5) rfl rfl rfl (by decide +kernel) ⟨Nat.le_trans (Nat.le_of_ble_eq_true rfl) hRf, Nat.le_trans (Nat.le_of_ble_eq_true rfl) hRl⟩) (kq_preS (kq_st_A.both (kq_st_r.both kq_st_r)) (⟨hT, sX, sZ⟩)) rfl rfl hl.1 rfl (lv_room (Nat.le_of_ble_eq_true rfl)) d_Mo_inverse_289 ⟨Nat.zero_le _, Nat.zero_le _⟩) (fun v9 H9 L5 hq9 hL5 => ?_)
          obtain ⟨rfl, rfl⟩ := hq9
          refine W.eq (g2 := F0 m 292 ls [.int (nI (18446744073709551616 - (if wv (mo + 31) < wv (mo + 30) then 1 else 0)))]) rfl ?_
          have hlc5 := t_lL (free := (fun q => q = r ∨ q = mo + 19 ∨ q = mo + 20 ∨ q = mo + 30 ∨ q = mo + 31)) hlc4 (fun q z => Or.inr (Or.inr (Or.inr (Or.inr (hL5 q z)))))
          refine lv_if_eq hx hb d_Mo_inverse_292 rfl (fun hz => ?_) (fun hz => ?_)
          · have hn9 : ¬ wv (mo + 31) < wv (mo + 30) := fun q => by
              rw [if_pos q] at hz
              exact absurd hz (by decide +kernel)
            rw [kx_sub_le (Nat.le_of_not_lt hn9) l31]
            refine ih _ _ ls _ ?_ (ks_put hE hW4 h31 (show wv (mo + 31) - wv (mo + 30) < kw_M 8 by omega)) ?_ ?_ ?_ (fun q q1 q2 q3 q4 => by rw [kq_up_ne q4, kq_up_ne q2]; exact ho4 q q1 q2 q3 q4) hlc5 (lv_sub hl [0, 1, 2] rfl)
            · rw [kq_up_ne (by omega), kq_up_ne (by omega), kq_up_ne (by omega), kq_up_at]
              omega
            · rw [kq_up_ne (by omega), kq_up_ne (by omega), kq_up_ne (by omega), kq_up_ne (by omega)]
              exact hJu
            · rw [kq_up_at, kq_up_ne (by omega), kq_up_at]
              exact kx_less (by omega) hJv hJu hlt (by omega) (Or.inl (by omega))
            · rw [kq_up_ne (by omega), kq_up_ne (by omega), kq_up_ne (by omega), kq_up_at, Nat.gcd_comm, Nat.gcd_sub_self_left (Nat.le_of_lt hlt)]
              exact (Nat.gcd_comm _ _).trans hg2
          · have hn9 : wv (mo + 31) < wv (mo + 30) := Classical.byContradiction fun q => by
              rw [if_neg q] at hz
              exact hz (by decide +kernel)
            have hW5 := ks_put hE hW4 h31 (kw_sub_lt (wv (mo + 31)) (wv (mo + 30)))
            have hO5 := ks_obj hW5 hO.1 hO.2.1
            have rX5 := ks_row hW5 h31
            have sX5 := ks_src hE hW5 hB (Or.inl h31)
            have sm5 := ks_src hE hW5 hB (Or.inr hmr.1)
            rw [ks_cst hW5 hmr] at sm5
            rw [kq_up_at] at rX5 sX5
            refine lv_aload_n hx hb d_Mo_inverse_295 rfl (lv_at hl 0 rfl) ?_
            refine kq_get hx hb hts kt_F_Mo hown hK hO5 rfl 19 (by decide) kt_w395 rfl d_Mo_inverse_296 ?_
            refine lv_aload_n hx hb d_Mo_inverse_299 rfl (lv_at hl 0 rfl) ?_
            refine kq_get hx hb hts kt_F_Mo hown hK hO5 rfl 19 (by decide) kt_w395 rfl d_Mo_inverse_300 ?_
            refine lv_aload_n hx hb d_Mo_inverse_303 rfl (lv_at hl 2 rfl) ?_
            refine kq_call (va_runS (As := [.ref (mo + 31), .ref (mo + 31), .ref mr]) (rest := []) ⟨hx, hb, hml, hown, hts⟩ (c_Mo_add_1 l _ (ks_c E) (mo + 31) (mo + 31) mr (kw_sub (wv (mo + 31)) (wv (mo + 30))) (kw_sub (wv (mo + 31)) (wv (mo + 30))) mm (kw_sub_lt _ _) (kw_sub_lt _ _) hm8 rX5) (va_cwS 3 hts (kt_inS kt_w479 kt_w477 kt_w478 kt_w5) rfl rfl rfl (by decide +kernel) ⟨Nat.le_trans (Nat.le_of_ble_eq_true rfl) hRf, Nat.le_trans (Nat.le_of_ble_eq_true rfl) hRl⟩) (kq_preS (kq_st_A.both (kq_st_r.both kq_st_r)) (⟨hT, sX5, sm5⟩)) rfl rfl hl.1 rfl (lv_room (Nat.le_of_ble_eq_true rfl)) d_Mo_inverse_304 ⟨Nat.zero_le _, Nat.zero_le _⟩) (fun v9 H9 L6 hq9 hL6 => ?_)
            obtain ⟨rfl, rfl⟩ := hq9
            refine W.eq (g2 := F0 m 307 ls [.int (nI ((kw_sub (wv (mo + 31)) (wv (mo + 30)) + mm) / kw_M 8))]) rfl ?_
            rw [kx_sub_gt hn9 (by omega) hm8]
            refine kq_rH (kq_set_set _ _ _ _) ?_
            refine lv_pop hx hb d_Mo_inverse_307 rfl ?_
            refine lv_goto hx hb d_Mo_inverse_308 rfl ?_
            refine ih _ _ ls _ ?_ (ks_put hE hW4 h31 (show wv (mo + 31) + mm - wv (mo + 30) < kw_M 8 by omega)) ?_ ?_ ?_ (fun q q1 q2 q3 q4 => by rw [kq_up_ne q4, kq_up_ne q2]; exact ho4 q q1 q2 q3 q4) (t_lL (free := (fun q => q = r ∨ q = mo + 19 ∨ q = mo + 20 ∨ q = mo + 30 ∨ q = mo + 31)) hlc5 (fun q z => Or.inr (Or.inr (Or.inr (Or.inr (hL6 q z)))))) (lv_sub hl [0, 1, 2] rfl)
            · rw [kq_up_ne (by omega), kq_up_ne (by omega), kq_up_ne (by omega), kq_up_at]
              omega
            · rw [kq_up_ne (by omega), kq_up_ne (by omega), kq_up_ne (by omega), kq_up_ne (by omega)]
              exact hJu
            · rw [kq_up_at, kq_up_ne (by omega), kq_up_at]
              exact kx_less (by omega) hJv hJu hlt (by omega) (Or.inr (by omega))
            · rw [kq_up_ne (by omega), kq_up_ne (by omega), kq_up_ne (by omega), kq_up_at, Nat.gcd_comm, Nat.gcd_sub_self_left (Nat.le_of_lt hlt)]
              exact (Nat.gcd_comm _ _).trans hg2
        · have hlt : wv (mo + 20) < wv (mo + 19) := by
            have q := Nat.not_lt.mp (fun q => hcm (kx_cmp_lt.mpr q))
            omega
          refine lv_aload_n hx hb d_Mo_inverse_211 rfl (lv_at hl 0 rfl) ?_
          refine kq_get hx hb hts kt_F_Mo hown hK hO3 rfl 6 (by decide) kt_w382 rfl d_Mo_inverse_212 ?_
          refine lv_aload_n hx hb d_Mo_inverse_215 rfl (lv_at hl 0 rfl) ?_
          refine kq_get hx hb hts kt_F_Mo hown hK hO3 rfl 6 (by decide) kt_w382 rfl d_Mo_inverse_216 ?_
          refine lv_aload_n hx hb d_Mo_inverse_219 rfl (lv_at hl 0 rfl) ?_
          refine kq_get hx hb hts kt_F_Mo hown hK hO3 rfl 7 (by decide) kt_w383 rfl d_Mo_inverse_220 ?_
          refine kq_call (va_runS (As := [.ref (mo + 19), .ref (mo + 19), .ref (mo + 20)]) (rest := []) ⟨hx, hb, hml, hown, hts⟩ (c_Mo_sub l Hv (ks_c E) (mo + 19) (mo + 19) (mo + 20) (wv (mo + 19)) (wv (mo + 19)) (wv (mo + 20)) l19 l19 l20 r19) (va_cwS 3 hts (kt_inS kt_w475 kt_w473 kt_w474 kt_w5) rfl rfl rfl (by decide +kernel) ⟨Nat.le_trans (Nat.le_of_ble_eq_true rfl) hRf, Nat.le_trans (Nat.le_of_ble_eq_true rfl) hRl⟩) (kq_preS (kq_st_A.both (kq_st_r.both kq_st_r)) (⟨hT, s19, s20⟩)) rfl rfl hl.1 rfl (lv_room (Nat.le_of_ble_eq_true rfl)) d_Mo_inverse_223 ⟨Nat.zero_le _, Nat.zero_le _⟩) (fun v9 H9 L4 hq9 hL4 => ?_)
          obtain ⟨rfl, rfl⟩ := hq9
          refine W.eq (g2 := F0 m 226 ls [.int (nI (18446744073709551616 - (if wv (mo + 19) < wv (mo + 20) then 1 else 0)))]) rfl ?_
          rw [kx_sub_le (Nat.le_of_lt hlt) l19]
          have hW4 := ks_put hE hWv h19 (show wv (mo + 19) - wv (mo + 20) < kw_M 8 by omega)
          have hO4 := ks_obj hW4 hO.1 hO.2.1
          have rX := ks_row hW4 h30
          have sX := ks_src hE hW4 hB (Or.inl h30)
          have sZ := ks_src hE hW4 hB (Or.inl h31)
          rw [kq_up_ne (by omega)] at rX sX sZ
          have hlc4 := t_lL (free := (fun q => q = r ∨ q = mo + 19 ∨ q = mo + 20 ∨ q = mo + 30 ∨ q = mo + 31)) hlc3 (fun q z => Or.inr (Or.inl (hL4 q z)))
          refine lv_pop hx hb d_Mo_inverse_226 rfl ?_
          refine lv_aload_n hx hb d_Mo_inverse_227 rfl (lv_at hl 0 rfl) ?_
          refine kq_get hx hb hts kt_F_Mo hown hK hO4 rfl 18 (by decide) kt_w394 rfl d_Mo_inverse_228 ?_
          refine lv_aload_n hx hb d_Mo_inverse_231 rfl (lv_at hl 0 rfl) ?_
          refine kq_get hx hb hts kt_F_Mo hown hK hO4 rfl 18 (by decide) kt_w394 rfl d_Mo_inverse_232 ?_
          refine lv_aload_n hx hb d_Mo_inverse_235 rfl (lv_at hl 0 rfl) ?_
          refine kq_get hx hb hts kt_F_Mo hown hK hO4 rfl 19 (by decide) kt_w395 rfl d_Mo_inverse_236 ?_
          refine kq_call (va_runS (As := [.ref (mo + 30), .ref (mo + 30), .ref (mo + 31)]) (rest := []) ⟨hx, hb, hml, hown, hts⟩ (c_Mo_sub l _ (ks_c E) (mo + 30) (mo + 30) (mo + 31) (wv (mo + 30)) (wv (mo + 30)) (wv (mo + 31)) l30 l30 l31 rX) (va_cwS 3 hts (kt_inS kt_w475 kt_w473 kt_w474 kt_w5) rfl rfl rfl (by decide +kernel) ⟨Nat.le_trans (Nat.le_of_ble_eq_true rfl) hRf, Nat.le_trans (Nat.le_of_ble_eq_true rfl) hRl⟩) (kq_preS (kq_st_A.both (kq_st_r.both kq_st_r)) (⟨hT, sX, sZ⟩)) rfl rfl hl.1 rfl (lv_room (Nat.le_of_ble_eq_true rfl)) d_Mo_inverse_239 ⟨Nat.zero_le _, Nat.zero_le _⟩) (fun v9 H9 L5 hq9 hL5 => ?_)
          obtain ⟨rfl, rfl⟩ := hq9
          refine W.eq (g2 := F0 m 242 ls [.int (nI (18446744073709551616 - (if wv (mo + 30) < wv (mo + 31) then 1 else 0)))]) rfl ?_
          have hlc5 := t_lL (free := (fun q => q = r ∨ q = mo + 19 ∨ q = mo + 20 ∨ q = mo + 30 ∨ q = mo + 31)) hlc4 (fun q z => Or.inr (Or.inr (Or.inr (Or.inl (hL5 q z)))))
          refine lv_if_eq hx hb d_Mo_inverse_242 rfl (fun hz => ?_) (fun hz => ?_)
          · have hn9 : ¬ wv (mo + 30) < wv (mo + 31) := fun q => by
              rw [if_pos q] at hz
              exact absurd hz (by decide +kernel)
            rw [kx_sub_le (Nat.le_of_not_lt hn9) l30]
            refine ih _ _ ls _ ?_ (ks_put hE hW4 h30 (show wv (mo + 30) - wv (mo + 31) < kw_M 8 by omega)) ?_ ?_ ?_ (fun q q1 q2 q3 q4 => by rw [kq_up_ne q3, kq_up_ne q1]; exact ho4 q q1 q2 q3 q4) hlc5 (lv_sub hl [0, 1, 2] rfl)
            · rw [kq_up_ne (by omega), kq_up_at, kq_up_ne (by omega), kq_up_ne (by omega)]
              omega
            · rw [kq_up_at, kq_up_ne (by omega), kq_up_at]
              exact kx_less (by omega) hJu hJv hlt (by omega) (Or.inl (by omega))
            · rw [kq_up_ne (by omega), kq_up_ne (by omega), kq_up_ne (by omega), kq_up_ne (by omega)]
              exact hJv
            · rw [kq_up_ne (by omega), kq_up_at, kq_up_ne (by omega), kq_up_ne (by omega), Nat.gcd_sub_self_left (Nat.le_of_lt hlt)]
              exact hg2
          · have hn9 : wv (mo + 30) < wv (mo + 31) := Classical.byContradiction fun q => by
              rw [if_neg q] at hz
              exact hz (by decide +kernel)
            have hW5 := ks_put hE hW4 h30 (kw_sub_lt (wv (mo + 30)) (wv (mo + 31)))
            have hO5 := ks_obj hW5 hO.1 hO.2.1
            have rX5 := ks_row hW5 h30
            have sX5 := ks_src hE hW5 hB (Or.inl h30)
            have sm5 := ks_src hE hW5 hB (Or.inr hmr.1)
            rw [ks_cst hW5 hmr] at sm5
            rw [kq_up_at] at rX5 sX5
            refine lv_aload_n hx hb d_Mo_inverse_245 rfl (lv_at hl 0 rfl) ?_
            refine kq_get hx hb hts kt_F_Mo hown hK hO5 rfl 18 (by decide) kt_w394 rfl d_Mo_inverse_246 ?_
            refine lv_aload_n hx hb d_Mo_inverse_249 rfl (lv_at hl 0 rfl) ?_
            refine kq_get hx hb hts kt_F_Mo hown hK hO5 rfl 18 (by decide) kt_w394 rfl d_Mo_inverse_250 ?_
            refine lv_aload_n hx hb d_Mo_inverse_253 rfl (lv_at hl 2 rfl) ?_
            refine kq_call (va_runS (As := [.ref (mo + 30), .ref (mo + 30), .ref mr]) (rest := []) ⟨hx, hb, hml, hown, hts⟩ (c_Mo_add_1 l _ (ks_c E) (mo + 30) (mo + 30) mr (kw_sub (wv (mo + 30)) (wv (mo + 31))) (kw_sub (wv (mo + 30)) (wv (mo + 31))) mm (kw_sub_lt _ _) (kw_sub_lt _ _) hm8 rX5) (va_cwS 3 hts (kt_inS kt_w479 kt_w477 kt_w478 kt_w5) rfl rfl rfl (by decide +kernel) ⟨Nat.le_trans (Nat.le_of_ble_eq_true rfl) hRf, Nat.le_trans (Nat.le_of_ble_eq_true rfl) hRl⟩) (kq_preS (kq_st_A.both (kq_st_r.both kq_st_r)) (⟨hT, sX5, sm5⟩)) rfl rfl hl.1 rfl (lv_room (Nat.le_of_ble_eq_true rfl)) d_Mo_inverse_254 ⟨Nat.zero_le _, Nat.zero_le _⟩) (fun v9 H9 L6 hq9 hL6 => ?_)
            obtain ⟨rfl, rfl⟩ := hq9
            refine W.eq (g2 := F0 m 257 ls [.int (nI ((kw_sub (wv (mo + 30)) (wv (mo + 31)) + mm) / kw_M 8))]) rfl ?_
            rw [kx_sub_gt hn9 (by omega) hm8]
            refine kq_rH (kq_set_set _ _ _ _) ?_
            refine lv_pop hx hb d_Mo_inverse_257 rfl ?_
            refine lv_goto hx hb d_Mo_inverse_258 rfl ?_
            refine ih _ _ ls _ ?_ (ks_put hE hW4 h30 (show wv (mo + 30) + mm - wv (mo + 31) < kw_M 8 by omega)) ?_ ?_ ?_ (fun q q1 q2 q3 q4 => by rw [kq_up_ne q3, kq_up_ne q1]; exact ho4 q q1 q2 q3 q4) (t_lL (free := (fun q => q = r ∨ q = mo + 19 ∨ q = mo + 20 ∨ q = mo + 30 ∨ q = mo + 31)) hlc5 (fun q z => Or.inr (Or.inr (Or.inr (Or.inl (hL6 q z)))))) (lv_sub hl [0, 1, 2] rfl)
            · rw [kq_up_ne (by omega), kq_up_at, kq_up_ne (by omega), kq_up_ne (by omega)]
              omega
            · rw [kq_up_at, kq_up_ne (by omega), kq_up_at]
              exact kx_less (by omega) hJu hJv hlt (by omega) (Or.inr (by omega))
            · rw [kq_up_ne (by omega), kq_up_ne (by omega), kq_up_ne (by omega), kq_up_ne (by omega)]
              exact hJv
            · rw [kq_up_ne (by omega), kq_up_at, kq_up_ne (by omega), kq_up_ne (by omega), Nat.gcd_sub_self_left (Nat.le_of_lt hlt)]
              exact hg2
end
set_option maxHeartbeats 4000000 in
set_option maxRecDepth 100000 in
theorem c_Mo_inverse (l : Launch) (E : ks_E) (A : Nat → Nat) (mo : Nat) (far : Bool) (v : Nat → Nat) (H : Heap) (hE : ks_ok E) (hA : ks_A E A) (hO : ks_O E mo far) (hW : ks_W E v H) (r a mr mm : Nat) (hr : ks_out E r) (ha : ks_in E a) (hmr : ks_S E mr ∧ ks_v E mr = mm) (hp : pm_prime mm) (hodd : mm % 2 = 1) (hm8 : mm < kw_M 8) (ha0 : 0 < v a) (ham : v a < mm) (hna : a ≠ mo + 20) : Met l y_Mo_inverse w_Mo_inverse ({ frames := 3, cells := 0, slots := 0, locals := 66 }) (kq_P [.ref mo, .ref r, .ref a, .ref mr] H (ks_C E A)) (kq_Q (fun o H1 => o = none ∧ ∃ w : Nat → Nat, ks_W E w H1 ∧ w r = kf_inv mm (v a) ∧ ∀ q, q ≠ r → q ≠ mo + 19 → q ≠ mo + 20 → q ≠ mo + 30 → q ≠ mo + 31 → w q = v q)) 0 0 (fun q => q = r ∨ q = mo + 19 ∨ q = mo + 20 ∨ q = mo + 30 ∨ q = mo + 31) := by
  refine Met.ofW (cc := b_Mo_inverse) (maxL := 5) (ret := none) (by decide) rfl ?_
  intro p e s m args below meth c s₁ B0 hml hv
  obtain ⟨rfl, hH, hC⟩ := hv
  have hx := B0.exec
  have hb := B0.bytes
  have hret := B0.returns
  have hts := atoms_spec (ws := w_Mo_inverse) B0.pre
  have hown : s.vm.findClass R_Mo = some m.cls := findClass_of_methodNamed B0.named
  have hlocks := B0.notSynchronized
  rw [hH]
  have hl := lv_entry ([.ref mo, .ref r, .ref a, .ref mr]) (n := 5) (Nat.le_of_ble_eq_true rfl)
  rw [lg_entry_eq]
  generalize (lg_sl ([.ref mo, .ref r, .ref a, .ref mr]) ++ List.replicate (5 - (lg_sl ([.ref mo, .ref r, .ref a, .ref mr])).length) Slot.unset).toArray = ls at hl ⊢
  have hl : lv_has ls 5 [(0, .ref mo), (1, .ref r), (2, .ref a), (3, .ref mr)] := hl
  have hB := hC.1
  have hK := hB.1
  have hT := ks_T hE hB
  have hOo := ks_obj hW hO.1 hO.2.1
  have h19 := hO.2.2.1 19 (by decide) (by decide) (by decide)
  have h20 := hO.2.2.1 20 (by decide) (by decide) (by decide)
  have h30 := hO.2.2.1 30 (by decide) (by decide) (by decide)
  have h31 := hO.2.2.1 31 (by decide) (by decide) (by decide)
  have hsa := ks_src hE hW hB ha
  have hla := ks_lt hE hW ha
  have hW1 := ks_put hE hW h19 hla
  have hOo1 := ks_obj hW1 hO.1 hO.2.1
  have hsm := ks_src hE hW1 hB (Or.inr hmr.1)
  rw [ks_cst hW1 hmr] at hsm
  have hW2 := ks_put hE hW1 h20 hm8
  have hm2 := hp.1
  refine lv_aload_n hx hb d_Mo_inverse_0 rfl (lv_at hl 0 rfl) ?_
  refine kq_get hx hb hts kt_F_Mo hown hK hOo rfl 6 (by decide) kt_w382 rfl d_Mo_inverse_1 ?_
  refine lv_aload_n hx hb d_Mo_inverse_4 rfl (lv_at hl 2 rfl) ?_
  refine kq_call (va_runS (As := [.ref (mo + 19), .ref a]) (rest := []) ⟨hx, hb, hml, hown, hts⟩ (c_Mo_copy l H (ks_c E) (mo + 19) a (v (mo + 19)) (v a) (ks_row hW h19)) (va_cwS 2 hts (kt_inS kt_w461 kt_w459 kt_w460 kt_w5) rfl rfl rfl (by decide +kernel) ⟨Nat.le_of_ble_eq_true rfl, Nat.le_of_ble_eq_true rfl⟩) (kq_preS (kq_st_A.both kq_st_r) (⟨hT, hsa⟩)) rfl rfl hl.1 rfl (lv_room (Nat.le_of_ble_eq_true rfl)) d_Mo_inverse_5 ⟨Nat.zero_le _, Nat.zero_le _⟩) (fun v9 H9 L1 hq9 hL1 => ?_)
  obtain ⟨rfl, rfl⟩ := hq9
  refine W.eq (g2 := F0 m 8 ls []) rfl ?_
  refine lv_aload_n hx hb d_Mo_inverse_8 rfl (lv_at hl 0 rfl) ?_
  refine kq_get hx hb hts kt_F_Mo hown hK hOo1 rfl 7 (by decide) kt_w383 rfl d_Mo_inverse_9 ?_
  refine lv_aload_n hx hb d_Mo_inverse_12 rfl (lv_at hl 3 rfl) ?_
  refine kq_call (va_runS (As := [.ref (mo + 20), .ref mr]) (rest := []) ⟨hx, hb, hml, hown, hts⟩ (c_Mo_copy l _ (ks_c E) (mo + 20) mr _ mm (ks_row hW1 h20)) (va_cwS 2 hts (kt_inS kt_w461 kt_w459 kt_w460 kt_w5) rfl rfl rfl (by decide +kernel) ⟨Nat.le_of_ble_eq_true rfl, Nat.le_of_ble_eq_true rfl⟩) (kq_preS (kq_st_A.both kq_st_r) (⟨hT, hsm⟩)) rfl rfl hl.1 rfl (lv_room (Nat.le_of_ble_eq_true rfl)) d_Mo_inverse_13 ⟨Nat.zero_le _, Nat.zero_le _⟩) (fun v9 H9 L2 hq9 hL2 => ?_)
  obtain ⟨rfl, rfl⟩ := hq9
  refine W.eq (g2 := F0 m 16 ls []) rfl ?_
  have hlc2 : ∀ q ∈ (([] : List Loc) ++ L1) ++ L2, q.base = r ∨ q.base = mo + 19 ∨ q.base = mo + 20 ∨ q.base = mo + 30 ∨ q.base = mo + 31 := t_lL (free := (fun q => q = r ∨ q = mo + 19 ∨ q = mo + 20 ∨ q = mo + 30 ∨ q = mo + 31)) (t_lL (free := (fun q => q = r ∨ q = mo + 19 ∨ q = mo + 20 ∨ q = mo + 30 ∨ q = mo + 31)) (fun q h => by cases h) (fun q z => Or.inr (Or.inl (hL1 q z)))) (fun q z => Or.inr (Or.inr (Or.inl (hL2 q z))))
  obtain ⟨v2, hv2⟩ : ∃ v2, v2 = va_up (va_up v (mo + 19) (v a)) (mo + 20) mm := ⟨_, rfl⟩
  have e19 : v2 (mo + 19) = v a := by rw [hv2, kq_up_ne (by omega), kq_up_at]
  have e20 : v2 (mo + 20) = mm := by rw [hv2, kq_up_at]
  rw [← hv2] at hW2
  refine lv_iconst (v := nI 0) hx hb d_Mo_inverse_16 (by decide) ?_
  refine lv_istore hx hb d_Mo_inverse_17 hl (by decide) rfl (fun ls hl => ?_)
  have hl : lv_has ls 5 [(4, .int (nI 0)), (0, .ref mo), (1, .ref r), (2, .ref a), (3, .ref mr)] := hl
  refine la_Mo_inverse hx hb hts hown hE hO hB (v := v2) (r := r) (mr := mr) (fun w3 H3 ls L3 hW3 h3a h3b ho3 hL3 hl => ?_) 8 0 _ _ ls _ rfl hW2 (by rw [kw_M_0, Nat.mod_one, if_pos rfl]) (by rw [kw_M_0, Nat.mod_one]) (fun _ _ _ => rfl) hlc2 (lv_sub hl [0, 1, 2, 4] rfl)
  have g19 : w3 (mo + 19) = v a := by rw [ho3 (mo + 19) (by omega) (by omega), e19]
  have g20 : w3 (mo + 20) = mm := by rw [ho3 (mo + 20) (by omega) (by omega), e20]
  refine lo_Mo_inverse hx hb hts hown hml (Nat.le_of_ble_eq_true rfl) (Nat.le_of_ble_eq_true rfl) hE hO hB hmr hodd hm8 (a0 := v a) (v := v2) (r := r) (fun w4 H4 ls L4 hW4 hJ4 hJ4b h14 ho4 hL4 hl => ?_) _ w3 H3 ls L3 (Nat.le_refl _) hW3 (by rw [g19, h3a]; exact ⟨ha0, Nat.le_of_lt ham, by omega, by rw [Nat.mul_one]⟩) (by rw [g20, h3b]; exact ⟨by omega, Nat.le_refl _, by omega, by rw [Nat.mul_zero, Nat.zero_mod, Nat.mod_self]⟩) ?_ (fun q q1 q2 q3 q4 => ho3 q q3 q4) hL3 (lv_sub hl [0, 1, 2] rfl)
  · have hO4 := ks_obj hW4 hO.1 hO.2.1
    have s19 := ks_src hE hW4 hB (Or.inl h19)
    have l19 := ks_lt hE hW4 (Or.inl h19)
    have s30 := ks_src hE hW4 hB (Or.inl h30)
    have l30 := ks_lt hE hW4 (Or.inl h30)
    have s31 := ks_src hE hW4 hB (Or.inl h31)
    have l31 := ks_lt hE hW4 (Or.inl h31)
    have hkeep : ∀ q, q ≠ mo + 19 → q ≠ mo + 20 → q ≠ mo + 30 → q ≠ mo + 31 → w4 q = v q := fun q q1 q2 q3 q4 => by rw [ho4 q q1 q2 q3 q4, hv2, kq_up_ne q2, kq_up_ne q1]
    refine lv_aload_n hx hb d_Mo_inverse_311 rfl (lv_at hl 1 rfl) ?_
    refine lv_aload_n hx hb d_Mo_inverse_312 rfl (lv_at hl 0 rfl) ?_
    refine kq_get hx hb hts kt_F_Mo hown hK hO4 rfl 6 (by decide) kt_w382 rfl d_Mo_inverse_313 ?_
    refine kq_call (va_runS (As := [.ref (mo + 19)]) (rest := [.ref r]) ⟨hx, hb, hml, hown, hts⟩ (c_Mo_isOne l H4 (mo + 19) (w4 (mo + 19)) l19) (va_cwS 1 hts (kt_inS kt_w514 kt_w512 kt_w513 kt_w5) rfl rfl rfl (by decide +kernel) ⟨Nat.le_of_ble_eq_true rfl, Nat.le_of_ble_eq_true rfl⟩) (kq_preS (kq_st_r) (s19)) rfl rfl hl.1 rfl (lv_room (Nat.le_of_ble_eq_true rfl)) d_Mo_inverse_316 ⟨Nat.zero_le _, Nat.zero_le _⟩) (fun v9 H9 L5 hq9 hL5 => ?_)
    obtain ⟨rfl, e9⟩ := hq9
    rw [e9]
    clear e9
    refine W.eq (g2 := F0 m 319 ls [.int (kq_z (decide (w4 (mo + 19) = 1))), .ref r]) rfl ?_
    have hlc5 := t_lL (free := (fun q => q = r ∨ q = mo + 19 ∨ q = mo + 20 ∨ q = mo + 30 ∨ q = mo + 31)) hL4 (fun q z => (hL5 q z).elim)
    refine lv_if_eq hx hb d_Mo_inverse_319 rfl (fun hc => ?_) (fun hc => ?_)
    · have hv1 := h14.elim (fun q => absurd q (kq_z_eq.mp hc)) id
      rw [hv1] at hJ4b
      refine lv_aload_n hx hb d_Mo_inverse_329 rfl (lv_at hl 0 rfl) ?_
      refine kq_get hx hb hts kt_F_Mo hown hK hO4 rfl 19 (by decide) kt_w395 rfl d_Mo_inverse_330 ?_
      refine kq_call (va_runS (As := [.ref r, .ref (mo + 31)]) (rest := []) ⟨hx, hb, hml, hown, hts⟩ (c_Mo_copy l H4 (ks_c E) r (mo + 31) (w4 r) (w4 (mo + 31)) (ks_row hW4 hr)) (va_cwS 2 hts (kt_inS kt_w461 kt_w459 kt_w460 kt_w5) rfl rfl rfl (by decide +kernel) ⟨Nat.le_of_ble_eq_true rfl, Nat.le_of_ble_eq_true rfl⟩) (kq_preS (kq_st_A.both kq_st_r) (⟨hT, s31⟩)) rfl rfl hl.1 rfl (lv_room (Nat.le_of_ble_eq_true rfl)) d_Mo_inverse_333 ⟨Nat.zero_le _, Nat.zero_le _⟩) (fun v9 H9 L6 hq9 hL6 => ?_)
      obtain ⟨rfl, rfl⟩ := hq9
      refine W.eq (g2 := F0 m 336 ls []) rfl ?_
      refine W.vret hx hb hret (fun t ht _ => ⟨_, rfl, rfl, ?_⟩) (t_lL (free := (fun q => q = r ∨ q = mo + 19 ∨ q = mo + 20 ∨ q = mo + 30 ∨ q = mo + 31)) hlc5 (fun q z => Or.inl (hL6 q z))) d_Mo_inverse_336
      rw [ht]
      exact ⟨_, ks_put hE hW4 hr l31, by rw [kq_up_at]; exact kx_one hp ha0 ham hJ4b, fun q q0 q1 q2 q3 q4 => by rw [kq_up_ne q0]; exact hkeep q q1 q2 q3 q4⟩
    · have hu1 := kq_z_ne.mp hc
      rw [hu1] at hJ4
      refine lv_aload_n hx hb d_Mo_inverse_322 rfl (lv_at hl 0 rfl) ?_
      refine kq_get hx hb hts kt_F_Mo hown hK hO4 rfl 18 (by decide) kt_w394 rfl d_Mo_inverse_323 ?_
      refine lv_goto hx hb d_Mo_inverse_326 rfl ?_
      refine kq_call (va_runS (As := [.ref r, .ref (mo + 30)]) (rest := []) ⟨hx, hb, hml, hown, hts⟩ (c_Mo_copy l H4 (ks_c E) r (mo + 30) (w4 r) (w4 (mo + 30)) (ks_row hW4 hr)) (va_cwS 2 hts (kt_inS kt_w461 kt_w459 kt_w460 kt_w5) rfl rfl rfl (by decide +kernel) ⟨Nat.le_of_ble_eq_true rfl, Nat.le_of_ble_eq_true rfl⟩) (kq_preS (kq_st_A.both kq_st_r) (⟨hT, s30⟩)) rfl rfl hl.1 rfl (lv_room (Nat.le_of_ble_eq_true rfl)) d_Mo_inverse_333 ⟨Nat.zero_le _, Nat.zero_le _⟩) (fun v9 H9 L6 hq9 hL6 => ?_)
      obtain ⟨rfl, rfl⟩ := hq9
      refine W.eq (g2 := F0 m 336 ls []) rfl ?_
      refine W.vret hx hb hret (fun t ht _ => ⟨_, rfl, rfl, ?_⟩) (t_lL (free := (fun q => q = r ∨ q = mo + 19 ∨ q = mo + 20 ∨ q = mo + 30 ∨ q = mo + 31)) hlc5 (fun q z => Or.inl (hL6 q z))) d_Mo_inverse_336
      rw [ht]
      exact ⟨_, ks_put hE hW4 hr l30, by rw [kq_up_at]; exact kx_one hp ha0 ham hJ4, fun q q0 q1 q2 q3 q4 => by rw [kq_up_ne q0]; exact hkeep q q1 q2 q3 q4⟩
  · rw [g19, g20]
    rcases hp.2 (Nat.gcd (v a) mm) (Nat.gcd_dvd_right _ _) with q | q
    · exact q
    · have := Nat.le_of_dvd ha0 (Nat.gcd_dvd_left (v a) mm)
      omega
